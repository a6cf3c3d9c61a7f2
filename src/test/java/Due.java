import java.util.List;
import java.util.function.Function;
import java.util.function.Supplier;
import java.util.function.ToIntFunction;

/** Collects the calls whose answers are not the ones that are due. */
final class Due {
    /** Together they see all that a store holds; each uses up the store that it looks at. */
    private static final List<Function<ForkedStore, String>> LOOKS =
        List.of(Due::picture, Due::rolledBack, Due::lettersRead, Due::textRun);

    private static int calls = 0;
    private static int wrong = 0;

    private Due() {
    }

    static void due(String call, long got, long want) {
        calls++;
        if (got != want) {
            wrong++;
            System.out.println(call + " answered " + got + ", due is " + want);
        }
    }

    static void due(String call, String got, String want) {
        calls++;
        if (!got.equals(want)) {
            wrong++;
            System.out.println(call + " answered " + got + ", due is " + want);
        }
    }

    /** A call must answer an error, and leave the store as a second one is that was made without the call. */
    static void refused(String call, Supplier<ForkedStore> scene, ToIntFunction<ForkedStore> made, int error) {
        for (Function<ForkedStore, String> look : LOOKS) {
            ForkedStore x = scene.get();
            due(call, made.applyAsInt(x), error);
            due("the store behind " + call, look.apply(x), look.apply(scene.get()));
        }
    }

    static int wrongSoFar() {
        return wrong;
    }

    /** Tells the outcome, and ends with exit code 1 if an answer was wrong. */
    static void finish() {
        System.out.println(wrong == 0 ? calls + " answers are as due" : wrong + " of " + calls + " answers are not as due");
        if (wrong != 0) {
            System.exit(1);
        }
    }

    static ForkedStore storeFor(int users) {
        ForkedStore x = new ForkedStore();
        x.reset(users);
        return x;
    }

    static void typeAll(ForkedStore x, String text) {
        for (int i = 0; i < text.length(); i++) {
            x.type(text.charAt(i));
        }
    }

    /** A vector of a user, place by place. */
    static String vector(ForkedStore x, int user, int kind) {
        StringBuilder told = new StringBuilder();
        int users = x.count(0);
        for (int place = 0; place < users; place++) {
            told.append(place == 0 ? "" : " ").append(x.vector(user, kind, place));
        }
        return told.toString();
    }

    /** The vector of an entry, place by place. */
    static String entry(ForkedStore x, int view, int owner) {
        StringBuilder told = new StringBuilder();
        int users = x.count(0);
        for (int place = 0; place < users; place++) {
            told.append(place == 0 ? "" : " ").append(x.entry(view, owner, place));
        }
        return told.toString();
    }

    /** The vectors and contents of all entries of a view. */
    static String entries(ForkedStore x, int view) {
        StringBuilder told = new StringBuilder();
        int users = x.count(0);
        for (int i = 0; i < users; i++) {
            told.append(" (").append(entry(x, view, i)).append(") ").append(x.content(view, i));
        }
        return told.toString();
    }

    /** All that the store tells, but for the text: two stores that differ here differ in state. */
    static String picture(ForkedStore x) {
        StringBuilder told = new StringBuilder();
        for (int what = 0; what <= 5; what++) {
            told.append(x.count(what)).append(',');
        }
        int users = x.count(0);
        for (int i = 0; i < users; i++) {
            told.append("\nuser ").append(i).append(": ").append(x.lastRead(i)).append(',').append(x.check(i));
            for (int what = 0; what <= 7; what++) {
                told.append(',').append(x.user(i, what));
            }
            for (int kind = 0; kind <= 3; kind++) {
                told.append(" (").append(vector(x, i, kind)).append(')');
            }
            for (int j = 0; j < users; j++) {
                told.append(',').append(x.compare(i, j, true)).append(',').append(x.compare(i, j, false));
            }
        }
        for (int v = 0; v < x.count(1); v++) {
            told.append("\nview ").append(v).append(':');
            for (int what = 0; what <= 3; what++) {
                told.append(',').append(x.view(v, what));
            }
            told.append(entries(x, v));
        }
        told.append('\n').append(x.forkedPairs()).append(',').append(x.tellingLetter()).append(',').append(x.unaware());
        return told.toString();
    }

    /** What the views remember. */
    private static String rolledBack(ForkedStore x) {
        StringBuilder told = new StringBuilder();
        int views = x.count(1);
        for (int v = 0; v < views; v++) {
            for (int left = x.view(v, 1); left > 0; left--) {
                told.append("\nview ").append(v).append(" behind ").append(x.rollBack(v, 1)).append(entries(x, v));
            }
        }
        return told.toString();
    }

    /** What is in the boxes. */
    private static String lettersRead(ForkedStore x) {
        StringBuilder told = new StringBuilder();
        int users = x.count(0);
        for (int i = 0; i < users; i++) {
            for (int left = x.user(i, 3); left > 0; left--) {
                told.append("\nuser ").append(i).append(' ').append(x.readLetter(i)).append(' ').append(x.user(i, 1));
                for (int kind = 1; kind <= 3; kind++) {
                    told.append(" (").append(vector(x, i, kind)).append(')');
                }
            }
        }
        return told.toString();
    }

    /** What the text is, by what it does. */
    private static String textRun(ForkedStore x) {
        int ran = x.run();
        int length = x.clearText();
        return ran + " of " + length + " characters\n" + picture(x);
    }
}
