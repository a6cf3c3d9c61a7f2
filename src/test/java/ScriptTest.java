/** Promises 25 to 27: the script. */
public final class ScriptTest {
    private static final String SIXTY = "w01w02w03w04w05w06w07w08w09w10w11w12w13w14w15w16w17w18w19w20";

    private ScriptTest() {
    }

    public static void main(String[] args) {
        promise25Type();
        promise26ClearText();
        promise27Commands();
        promise27CommandsActLikeTheirMethods();
        promise27TheTextStays();
        promise27Faults();
        promise27ErrorsStop();
        promise27AlarmsDoNotStop();
        promise27ReadingLetters();
        Due.finish();
    }

    private static int run(ForkedStore x, String text) {
        x.clearText();
        Due.typeAll(x, text);
        return x.run();
    }

    private static void promise25Type() {
        ForkedStore x = new ForkedStore();
        for (int i = 1; i <= 60; i++) {
            Due.due("type", x.type(SIXTY.charAt(i - 1)), i);
        }
        Due.due("type('w')", x.type('w'), ForkedStore.FULL);
        Due.due("type('?')", x.type('?'), ForkedStore.FULL);
        Due.due("run() of 60 characters", x.run(), 20);
        Due.due("content(0, 0)", x.content(0, 0), 9);
        Due.due("content(0, 1)", x.content(0, 1), 9);
        Due.due("clearText()", x.clearText(), 60);
        Due.due("any character", x.type('\u0000'), 1);
        Due.due("any character", x.type('\uffff'), 2);
        Due.due("any character", x.type(' '), 3);
        Due.due("run()", x.run(), -100);
        Due.due("clearText()", x.clearText(), 3);
        Due.due("a character that ends like w", x.type((char) (256 + 'w')), 1);
        Due.due("run()", x.run(), -100);
        String before = Due.picture(x);
        x.type('w');
        Due.due("the store stays", Due.picture(x), before);
    }

    private static void promise26ClearText() {
        ForkedStore x = new ForkedStore();
        Due.due("clearText()", x.clearText(), 0);
        Due.typeAll(x, "w01r1");
        Due.due("clearText()", x.clearText(), 5);
        Due.due("clearText()", x.clearText(), 0);
        Due.due("run()", x.run(), 0);
        Due.due("count(4)", x.count(4), 0);
        Due.due("type('w')", x.type('w'), 1);
        Due.due("run()", x.run(), -101);
    }

    private static void promise27Commands() {
        ForkedStore x = new ForkedStore();
        Due.due("w", run(x, "w19"), 1);
        Due.due("content(0, 1)", x.content(0, 1), 9);
        Due.due("r", run(x, "r01"), 1);
        Due.due("lastRead(0)", x.lastRead(0), 9);
        Due.due("s", run(x, "s02"), 1);
        Due.due("user(2, 3)", x.user(2, 3), 1);
        Due.due("g", run(x, "g21"), 1);
        Due.due("known of 2", Due.vector(x, 2, 1), "1 1 0");
        x.fork(0, 1);
        Due.due("m", run(x, "m21"), 1);
        Due.due("user(2, 0)", x.user(2, 0), 1);
        Due.due("m", run(x, "m20"), 1);
        Due.due("user(2, 0)", x.user(2, 0), 0);
        Due.due("in their order", run(x, "w11w12r21w13"), 4);
        Due.due("lastRead(2)", x.lastRead(2), 2);
        Due.due("content(0, 1)", x.content(0, 1), 3);
    }

    private static void promise27CommandsActLikeTheirMethods() {
        ForkedStore x = Due.storeFor(4);
        ForkedStore y = Due.storeFor(4);
        x.fork(0, 6);
        y.fork(0, 6);
        Due.due("run()", run(x, "w05w17r31s03s13g32m10r33"), 7);
        y.write(0, 5);
        y.write(1, 7);
        y.read(3, 1);
        y.sendLetter(0, 3);
        y.sendLetter(1, 3);
        y.readLetter(3);
        y.readLetter(3);
        y.attach(1, 0);
        Due.due("the same store", Due.picture(x), Due.picture(y));
    }

    private static void promise27TheTextStays() {
        ForkedStore x = new ForkedStore();
        Due.due("run()", run(x, "w01w12"), 2);
        Due.due("run()", x.run(), 2);
        Due.due("count(4)", x.count(4), 4);
        Due.due("type('r')", x.type('r'), 7);
        Due.due("run()", x.run(), -107);
        Due.due("count(4)", x.count(4), 4);
        x.type('2');
        Due.due("run()", x.run(), -108);
        x.type('0');
        Due.due("run()", x.run(), 3);
        Due.due("lastRead(2)", x.lastRead(2), 1);
        Due.due("clearText()", x.clearText(), 9);
    }

    private static void promise27Faults() {
        ForkedStore x = new ForkedStore();
        String before = Due.picture(x);
        Due.due("an empty text", run(x, ""), 0);
        Due.due("x01", run(x, "x01"), -100);
        Due.due("W01", run(x, "W01"), -100);
        Due.due("0w1", run(x, "0w1"), -100);
        Due.due("ww1", run(x, "ww1"), -101);
        Due.due("w/1", run(x, "w/1"), -101);
        Due.due("w:1", run(x, "w:1"), -101);
        Due.due("w0/", run(x, "w0/"), -102);
        Due.due("w0:", run(x, "w0:"), -102);
        Due.due("w0-", run(x, "w0-"), -102);
        Due.due("w01 w02", run(x, "w01 w02"), -103);
        Due.due("w01w0", run(x, "w01w0"), -105);
        Due.due("w01w", run(x, "w01w"), -104);
        Due.due("w", run(x, "w"), -101);
        Due.due("the first fault", run(x, "w0xx"), -102);
        Due.due("a fault behind an error", run(x, "w91w0"), -105);
        Due.due("the last place", run(x, SIXTY.substring(0, 59) + "a"), -159);
        Due.due("without the last character", run(x, SIXTY.substring(0, 59)), -159);
        Due.due("f00", run(x, "f00"), -100);
        Due.due("l00", run(x, "l00"), -100);
        Due.due("an arabic digit", run(x, "w0\u0661"), -102);
        Due.due("nothing is carried out", Due.picture(x), before);
    }

    private static void promise27ErrorsStop() {
        ForkedStore x = new ForkedStore();
        Due.due("no such user to write", run(x, "w01w31w02"), 1);
        Due.due("content(0, 0)", x.content(0, 0), 1);
        Due.due("no such register", run(x, "r03w02"), 0);
        Due.due("no such receiver", run(x, "s03w02"), 0);
        Due.due("a letter to oneself", run(x, "s00w02"), 0);
        Due.due("no such view", run(x, "m01w02"), 0);
        Due.due("no such user to attach", run(x, "m30w02"), 0);
        Due.due("no letter", run(x, "g01w02"), 0);
        Due.due("content(0, 0)", x.content(0, 0), 1);
        Due.due("a full box", run(x, "s01s01s01s01s01s02"), 4);
        Due.due("user(1, 3)", x.user(1, 3), 4);
        Due.due("user(2, 3)", x.user(2, 3), 0);
        Due.due("the first command", run(x, "w91"), 0);
    }

    private static void promise27AlarmsDoNotStop() {
        ForkedStore x = new ForkedStore();
        x.write(0, 1);
        x.rollBack(0, 1);
        Due.due("run()", run(x, "w02w15w03w16"), 2);
        Due.due("user(0, 1)", x.user(0, 1), 1);
        Due.due("content(0, 1)", x.content(0, 1), 5);
        Due.due("an alarm of a reader", x.rollBack(0, 1), 0);
        Due.due("run()", run(x, "r10r21r10"), 2);
        Due.due("user(1, 1)", x.user(1, 1), 1);
        x.reset(3);
        x.fork(0, 2);
        Due.due("alarm 4", run(x, "w01w12s01g11s10g01w20"), 7);
        Due.due("user(1, 1)", x.user(1, 1), 4);
        Due.due("user(0, 1)", x.user(0, 1), 4);
    }

    private static void promise27ReadingLetters() {
        ForkedStore x = new ForkedStore();
        Due.due("g with y = 0", run(x, "g00g10g20"), 3);
        Due.due("g with y = 0 and no such user", run(x, "g00g30w01"), 1);
        Due.due("content(0, 0)", x.content(0, 0), 0);
        Due.due("g of no such user", run(x, "g31"), 0);
        Due.due("run()", run(x, "w01s01w02s01g13w05"), 4);
        Due.due("what was read before stays", Due.vector(x, 1, 1), "2 0 0");
        Due.due("user(1, 3)", x.user(1, 3), 0);
        Due.due("content(0, 0)", x.content(0, 0), 2);
        Due.due("run()", run(x, "s01s01s01g12w07"), 5);
        Due.due("user(1, 3)", x.user(1, 3), 1);
        Due.due("content(0, 0)", x.content(0, 0), 7);
        Due.due("all four letters", run(x, "s01s01s01g14"), 4);
        Due.due("count(5)", x.count(5), 0);
    }
}
