import java.lang.reflect.Constructor;
import java.lang.reflect.Field;
import java.lang.reflect.Method;
import java.lang.reflect.Modifier;
import java.util.ArrayList;
import java.util.Arrays;
import java.util.Collections;
import java.util.List;

/** The public face is that of the document, with nothing less and nothing more. */
public final class FaceTest {
    private static final String[] METHODS = {
        "reset(int)", "write(int,int)", "read(int,int)", "lastRead(int)", "check(int)", "fork(int,int)",
        "attach(int,int)", "rollBack(int,int)", "mix(int,int)", "sendLetter(int,int)", "readLetter(int)",
        "loseLetter(int)", "passProof(int,int)", "count(int)", "user(int,int)", "vector(int,int,int)",
        "entry(int,int,int)", "content(int,int)", "view(int,int)", "compare(int,int,boolean)",
        "forkedPairs()", "tellingLetter()", "unaware()", "type(char)", "clearText()", "run()",
    };

    private FaceTest() {
    }

    public static void main(String[] args) {
        constants();
        methods();
        nothingMore();
        Due.finish();
    }

    private static void constants() {
        Due.due("UNKNOWN", ForkedStore.UNKNOWN, -10001);
        Due.due("BAD_VALUE", ForkedStore.BAD_VALUE, -10002);
        Due.due("NOT_POSSIBLE", ForkedStore.NOT_POSSIBLE, -10003);
        Due.due("FULL", ForkedStore.FULL, -10004);
        Due.due("NONE", ForkedStore.NONE, -10005);
    }

    private static void methods() {
        List<String> found = new ArrayList<>();
        for (Method method : ForkedStore.class.getDeclaredMethods()) {
            if (Modifier.isPublic(method.getModifiers())) {
                Due.due(method.getName() + " answers an int", method.getReturnType().getName(), "int");
                Due.due(method.getName() + " is an object's", Modifier.isStatic(method.getModifiers()) ? 1 : 0, 0);
                found.add(method.getName() + "(" + parameters(method.getParameterTypes()) + ")");
            }
        }
        List<String> wanted = new ArrayList<>(Arrays.asList(METHODS));
        Collections.sort(found);
        Collections.sort(wanted);
        Due.due("public methods", found.toString(), wanted.toString());
    }

    private static String parameters(Class<?>[] types) {
        StringBuilder told = new StringBuilder();
        for (Class<?> type : types) {
            told.append(told.length() == 0 ? "" : ",").append(type.getName());
        }
        return told.toString();
    }

    private static void nothingMore() {
        Due.due("final", Modifier.isFinal(ForkedStore.class.getModifiers()) ? 1 : 0, 1);
        Constructor<?>[] constructors = ForkedStore.class.getDeclaredConstructors();
        Due.due("constructors", constructors.length, 1);
        Due.due("parameters of the constructor", constructors[0].getParameterCount(), 0);
        int publicFields = 0;
        for (Field field : ForkedStore.class.getDeclaredFields()) {
            if (Modifier.isPublic(field.getModifiers())) {
                publicFields++;
            } else {
                Due.due(field.getName() + " is private", Modifier.isPrivate(field.getModifiers()) ? 1 : 0, 1);
            }
        }
        Due.due("public fields", publicFields, 5);
        for (Method method : ForkedStore.class.getDeclaredMethods()) {
            int modifiers = method.getModifiers();
            Due.due(method.getName() + " is public or private",
                Modifier.isPublic(modifiers) || Modifier.isPrivate(modifiers) ? 1 : 0, 1);
            if (Modifier.isPrivate(modifiers)) {
                Due.due(method.getName() + " bears a public name", hasPublicName(method.getName()) ? 1 : 0, 0);
            }
        }
    }

    private static boolean hasPublicName(String name) {
        for (String method : METHODS) {
            if (method.startsWith(name + "(")) {
                return true;
            }
        }
        return false;
    }
}
