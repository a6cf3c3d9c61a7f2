/** Promises 1 to 6: a new object, and the operations of users. */
public final class OperationTest {
    private OperationTest() {
    }

    public static void main(String[] args) {
        promise1NewObject();
        promise2Reset();
        promise2ResetStartsAnew();
        promise2FewerUsers();
        promise3Write();
        promise3WriteErrors();
        promise3NewVector();
        alarm1OwnEntry();
        alarm1BeforeTheOthers();
        alarm2Entries();
        alarm2FirstPair();
        alarm2BeforeAlarm3();
        alarm3WithoutProof();
        alarm3WithProof();
        promise4Read();
        promise4ReadErrors();
        promise5LastRead();
        promise6Check();
        costs();
        Due.finish();
    }

    private static void promise1NewObject() {
        ForkedStore x = new ForkedStore();
        Due.due("count(0)", x.count(0), 3);
        Due.due("count(1)", x.count(1), 1);
        for (int what = 2; what <= 5; what++) {
            Due.due("count(" + what + ")", x.count(what), 0);
        }
        for (int i = 0; i < 3; i++) {
            Due.due("signed", Due.vector(x, i, 0), "0 0 0");
            Due.due("known", Due.vector(x, i, 1), "0 0 0");
            Due.due("entry", Due.entry(x, 0, i), "0 0 0");
            Due.due("content", x.content(0, i), 0);
            for (int what = 0; what <= 6; what++) {
                Due.due("user(" + i + ", " + what + ")", x.user(i, what), 0);
            }
            Due.due("lastRead", x.lastRead(i), ForkedStore.NONE);
            Due.due("check", x.check(i), 0);
        }
        Due.due("lastRead(3)", x.lastRead(3), ForkedStore.UNKNOWN);
        Due.due("view(0, 0)", x.view(0, 0), 7);
        Due.due("view(0, 1)", x.view(0, 1), 0);
        Due.due("run()", x.run(), 0);
        Due.due("clearText()", x.clearText(), 0);
        Due.due("unaware()", x.unaware(), 7);
    }

    private static void promise2Reset() {
        ForkedStore x = new ForkedStore();
        Due.due("reset(5)", x.reset(5), 3);
        Due.due("reset(2)", x.reset(2), 5);
        Due.due("reset(2)", x.reset(2), 2);
        x.write(1, 8);
        String before = Due.picture(x);
        Due.due("reset(1)", x.reset(1), ForkedStore.BAD_VALUE);
        Due.due("reset(6)", x.reset(6), ForkedStore.BAD_VALUE);
        Due.due("reset(-3)", x.reset(-3), ForkedStore.BAD_VALUE);
        Due.due("reset(least)", x.reset(Integer.MIN_VALUE), ForkedStore.BAD_VALUE);
        Due.due("reset(most)", x.reset(Integer.MAX_VALUE), ForkedStore.BAD_VALUE);
        Due.due("after wrong resets", Due.picture(x), before);
        Due.due("reset(4)", x.reset(4), 2);
        Due.due("view(0, 0)", x.view(0, 0), 15);
    }

    private static void promise2ResetStartsAnew() {
        ForkedStore x = Due.storeFor(5);
        Due.typeAll(x, "w01");
        for (int i = 0; i < 5; i++) {
            x.write(i, 10 + i);
            x.read(i, 0);
        }
        x.fork(0, 30);
        x.fork(0, 1);
        x.write(1, 5);
        x.write(0, 6);
        x.sendLetter(0, 1);
        x.readLetter(1);
        x.passProof(1, 2);
        x.sendLetter(0, 3);
        x.rollBack(1, 5);
        x.read(4, 2);
        Due.due("reset(5)", x.reset(5), 5);
        Due.due("after reset", Due.picture(x), Due.picture(Due.storeFor(5)));
        Due.due("readLetter(3)", x.readLetter(3), ForkedStore.NONE);
        Due.due("passProof(1, 2)", x.passProof(1, 2), ForkedStore.NOT_POSSIBLE);
        Due.due("rollBack(0, 1)", x.rollBack(0, 1), ForkedStore.NONE);
        Due.due("the text stays", x.run(), 1);
        Due.due("content(0, 0)", x.content(0, 0), 1);
        Due.due("clearText()", x.clearText(), 3);
    }

    private static void promise2FewerUsers() {
        ForkedStore x = Due.storeFor(5);
        x.write(4, 1);
        x.write(3, 1);
        x.fork(0, 16);
        x.write(4, 2);
        x.reset(2);
        Due.due("view(0, 0)", x.view(0, 0), 3);
        Due.due("count(4)", x.count(4), 0);
        x.write(0, 1);
        Due.due("view(0, 3)", x.view(0, 3), 1);
        Due.due("write(2, 0)", x.write(2, 0), ForkedStore.UNKNOWN);
        Due.due("vector(0, 0, 2)", x.vector(0, 0, 2), ForkedStore.UNKNOWN);
        x.reset(5);
        Due.due("vector(4, 0, 4)", x.vector(4, 0, 4), 0);
        Due.due("content(0, 4)", x.content(0, 4), 0);
    }

    private static void promise3Write() {
        ForkedStore x = new ForkedStore();
        Due.due("write(0, -1000)", x.write(0, -1000), 0);
        Due.due("content(0, 0)", x.content(0, 0), -1000);
        Due.due("write(0, 1000)", x.write(0, 1000), 0);
        Due.due("content(0, 0)", x.content(0, 0), 1000);
        Due.due("write(2, 0)", x.write(2, 0), 0);
        Due.due("content(0, 2)", x.content(0, 2), 0);
        Due.due("content(0, 1)", x.content(0, 1), 0);
        Due.due("count(4)", x.count(4), 3);
        Due.due("user(0, 4)", x.user(0, 4), 2);
        Due.due("user(2, 4)", x.user(2, 4), 1);
        Due.due("view(0, 1)", x.view(0, 1), 3);
        Due.due("lastRead(0)", x.lastRead(0), ForkedStore.NONE);
    }

    private static void promise3WriteErrors() {
        ForkedStore x = new ForkedStore();
        x.write(0, 7);
        String before = Due.picture(x);
        Due.due("write(3, 0)", x.write(3, 0), ForkedStore.UNKNOWN);
        Due.due("write(-1, 0)", x.write(-1, 0), ForkedStore.UNKNOWN);
        Due.due("write(-1, 1001)", x.write(-1, 1001), ForkedStore.UNKNOWN);
        Due.due("write(most, 0)", x.write(Integer.MAX_VALUE, 0), ForkedStore.UNKNOWN);
        Due.due("write(least, 0)", x.write(Integer.MIN_VALUE, 0), ForkedStore.UNKNOWN);
        Due.due("write(0, 1001)", x.write(0, 1001), ForkedStore.BAD_VALUE);
        Due.due("write(0, -1001)", x.write(0, -1001), ForkedStore.BAD_VALUE);
        Due.due("write(0, least)", x.write(0, Integer.MIN_VALUE), ForkedStore.BAD_VALUE);
        Due.due("after errors", Due.picture(x), before);
        x = new ForkedStore();
        x.write(0, 7);
        x.rollBack(0, 1);
        Due.due("write(0, 1)", x.write(0, 1), 1);
        before = Due.picture(x);
        Due.due("write(0, 1)", x.write(0, 1), ForkedStore.NOT_POSSIBLE);
        Due.due("write(0, 1001)", x.write(0, 1001), ForkedStore.BAD_VALUE);
        Due.due("after errors", Due.picture(x), before);
    }

    private static void promise3NewVector() {
        ForkedStore x = new ForkedStore();
        x.write(0, 1);
        x.write(1, 2);
        Due.due("signed of 0", Due.vector(x, 0, 0), "1 0 0");
        Due.due("signed of 1", Due.vector(x, 1, 0), "1 1 0");
        Due.due("known of 1", Due.vector(x, 1, 1), "1 1 0");
        Due.due("entry of 1", Due.entry(x, 0, 1), "1 1 0");
        x.write(0, 3);
        Due.due("signed of 0", Due.vector(x, 0, 0), "2 1 0");
        Due.due("entry of 0", Due.entry(x, 0, 0), "2 1 0");
        Due.due("entry of 1", Due.entry(x, 0, 1), "1 1 0");
        Due.due("known of 2", Due.vector(x, 2, 1), "0 0 0");
    }

    private static void alarm1OwnEntry() {
        ForkedStore x = new ForkedStore();
        x.write(0, 5);
        x.write(1, 6);
        x.rollBack(0, 1);
        Due.due("write(1, 7)", x.write(1, 7), 1);
        Due.due("user(1, 1)", x.user(1, 1), 1);
        Due.due("user(1, 2)", x.user(1, 2), 0);
        Due.due("content(0, 1)", x.content(0, 1), 0);
        Due.due("entry(0, 1)", Due.entry(x, 0, 1), "0 0 0");
        Due.due("signed of 1", Due.vector(x, 1, 0), "1 1 0");
        Due.due("view(0, 1)", x.view(0, 1), 1);
        Due.due("user(1, 4)", x.user(1, 4), 1);
        Due.due("count(4)", x.count(4), 2);
        Due.due("write(0, 8)", x.write(0, 8), 0);
    }

    /** Entries are forked and the known vector is not shown, but the own entry comes first. */
    private static void alarm1BeforeTheOthers() {
        ForkedStore x = new ForkedStore();
        x.fork(0, 1);
        x.fork(0, 2);
        x.write(0, 1);
        x.write(1, 1);
        x.mix(2, 1);
        x.write(2, 1);
        x.attach(2, 2);
        Due.due("view(2, 2)", x.view(2, 2), 0);
        Due.due("read(2, 2)", x.read(2, 2), 1);
        Due.due("user(2, 2)", x.user(2, 2), 0);
    }

    private static void alarm2Entries() {
        ForkedStore x = new ForkedStore();
        x.fork(0, 6);
        x.write(0, 1);
        x.write(1, 2);
        x.mix(0, 1);
        Due.due("write(2, 3)", x.write(2, 3), 2);
        Due.due("user(2, 1)", x.user(2, 1), 2);
        Due.due("user(2, 2)", x.user(2, 2), 1);
        Due.due("user(2, 7)", x.user(2, 7), 0);
        Due.due("first", Due.vector(x, 2, 2), "1 0 0");
        Due.due("second", Due.vector(x, 2, 3), "0 1 0");
        Due.due("content(0, 2)", x.content(0, 2), 0);
        Due.due("known of 2", Due.vector(x, 2, 1), "0 0 0");
        Due.due("user(2, 4)", x.user(2, 4), 0);
    }

    /** Three forks in one view: the pair of the lower, then of the higher user is the proof. */
    private static void alarm2FirstPair() {
        ForkedStore x = Due.storeFor(5);
        x.fork(0, 2);
        x.fork(0, 4);
        x.fork(0, 8);
        x.write(1, 1);
        x.write(2, 1);
        x.write(3, 1);
        x.mix(0, 3);
        x.mix(0, 2);
        x.mix(0, 1);
        Due.due("read(4, 1)", x.read(4, 1), 2);
        Due.due("first", Due.vector(x, 4, 2), "0 1 0 0 0");
        Due.due("second", Due.vector(x, 4, 3), "0 0 1 0 0");
    }

    private static void alarm2BeforeAlarm3() {
        ForkedStore x = Due.storeFor(4);
        x.fork(0, 2);
        x.fork(0, 4);
        x.write(0, 1);
        x.write(1, 1);
        x.write(2, 1);
        x.mix(0, 1);
        x.sendLetter(2, 3);
        Due.due("readLetter(3)", x.readLetter(3), 1);
        Due.due("write(3, 1)", x.write(3, 1), 2);
        Due.due("first", Due.vector(x, 3, 2), "1 0 0 0");
        Due.due("second", Due.vector(x, 3, 3), "0 1 0 0");
    }

    private static void alarm3WithoutProof() {
        ForkedStore x = new ForkedStore();
        x.fork(0, 2);
        x.write(0, 1);
        x.sendLetter(0, 1);
        Due.due("readLetter(1)", x.readLetter(1), 1);
        Due.due("check(1)", x.check(1), 3);
        Due.due("write(1, 4)", x.write(1, 4), 3);
        Due.due("user(1, 1)", x.user(1, 1), 3);
        Due.due("user(1, 2)", x.user(1, 2), 0);
        Due.due("content(1, 1)", x.content(1, 1), 0);
        Due.due("known of 1", Due.vector(x, 1, 1), "1 0 0");
        Due.due("signed of 1", Due.vector(x, 1, 0), "0 0 0");
    }

    private static void alarm3WithProof() {
        ForkedStore x = new ForkedStore();
        x.fork(0, 6);
        x.write(0, 1);
        x.write(2, 2);
        x.sendLetter(0, 1);
        x.readLetter(1);
        Due.due("read(1, 1)", x.read(1, 1), 3);
        Due.due("user(1, 2)", x.user(1, 2), 1);
        Due.due("first", Due.vector(x, 1, 2), "1 0 0");
        Due.due("second", Due.vector(x, 1, 3), "0 0 1");
        Due.due("user(1, 7)", x.user(1, 7), 0);
    }

    private static void promise4Read() {
        ForkedStore x = new ForkedStore();
        x.write(0, 42);
        Due.due("read(1, 0)", x.read(1, 0), 0);
        Due.due("lastRead(1)", x.lastRead(1), 42);
        Due.due("entry(0, 1)", Due.entry(x, 0, 1), "1 1 0");
        Due.due("content(0, 1)", x.content(0, 1), 0);
        Due.due("content(0, 0)", x.content(0, 0), 42);
        Due.due("read(0, 0)", x.read(0, 0), 0);
        Due.due("lastRead(0)", x.lastRead(0), 42);
        Due.due("signed of 0", Due.vector(x, 0, 0), "2 1 0");
        Due.due("view(0, 1)", x.view(0, 1), 3);
        Due.due("count(4)", x.count(4), 3);
        x.fork(0, 4);
        x.write(0, 43);
        Due.due("read(2, 0)", x.read(2, 0), 0);
        Due.due("lastRead(2) in its own view", x.lastRead(2), 42);
        x.rollBack(1, 1);
        Due.due("read(2, 0)", x.read(2, 0), 1);
        Due.due("user(2, 1)", x.user(2, 1), 1);
    }

    private static void promise4ReadErrors() {
        ForkedStore x = new ForkedStore();
        x.read(0, 1);
        String before = Due.picture(x);
        Due.due("read(3, 0)", x.read(3, 0), ForkedStore.UNKNOWN);
        Due.due("read(-1, 0)", x.read(-1, 0), ForkedStore.UNKNOWN);
        Due.due("read(0, 3)", x.read(0, 3), ForkedStore.UNKNOWN);
        Due.due("read(0, -1)", x.read(0, -1), ForkedStore.UNKNOWN);
        Due.due("read(0, most)", x.read(0, Integer.MAX_VALUE), ForkedStore.UNKNOWN);
        Due.due("after errors", Due.picture(x), before);
        x.rollBack(0, 1);
        Due.due("read(0, 0)", x.read(0, 0), 1);
        Due.due("read(0, 0)", x.read(0, 0), ForkedStore.NOT_POSSIBLE);
        Due.due("read(0, 3)", x.read(0, 3), ForkedStore.UNKNOWN);
    }

    private static void promise5LastRead() {
        ForkedStore x = new ForkedStore();
        Due.due("lastRead(0)", x.lastRead(0), ForkedStore.NONE);
        x.read(0, 1);
        Due.due("lastRead(0)", x.lastRead(0), 0);
        x.write(1, -6);
        Due.due("lastRead(0)", x.lastRead(0), 0);
        x.read(0, 1);
        Due.due("lastRead(0)", x.lastRead(0), -6);
        x.write(0, 9);
        Due.due("lastRead(0)", x.lastRead(0), -6);
        x.rollBack(0, 1);
        Due.due("read(0, 2)", x.read(0, 2), 1);
        Due.due("lastRead(0) after an alarm", x.lastRead(0), -6);
        Due.due("lastRead(1)", x.lastRead(1), ForkedStore.NONE);
        Due.due("lastRead(3)", x.lastRead(3), ForkedStore.UNKNOWN);
        Due.due("lastRead(-1)", x.lastRead(-1), ForkedStore.UNKNOWN);
        x.reset(3);
        Due.due("lastRead(0)", x.lastRead(0), ForkedStore.NONE);
    }

    private static void promise6Check() {
        ForkedStore x = new ForkedStore();
        x.write(0, 1);
        x.write(1, 2);
        String before = Due.picture(x);
        Due.due("check(0)", x.check(0), 0);
        Due.due("check(2)", x.check(2), 0);
        Due.due("check(3)", x.check(3), ForkedStore.UNKNOWN);
        Due.due("check(-1)", x.check(-1), ForkedStore.UNKNOWN);
        Due.due("after check", Due.picture(x), before);
        x.rollBack(0, 1);
        Due.due("check(1)", x.check(1), 1);
        Due.due("check(1)", x.check(1), 1);
        Due.due("user(1, 1)", x.user(1, 1), 0);
        Due.due("user(1, 5)", x.user(1, 5), 9);
        x.read(1, 1);
        Due.due("check(1)", x.check(1), ForkedStore.NOT_POSSIBLE);
        x.reset(3);
        x.fork(0, 6);
        x.write(0, 1);
        x.write(1, 1);
        x.mix(0, 1);
        Due.due("check(2)", x.check(2), 2);
        Due.due("user(2, 2)", x.user(2, 2), 0);
    }

    private static void costs() {
        for (int u = 2; u <= 5; u++) {
            ForkedStore x = Due.storeFor(u);
            x.write(0, 1);
            x.read(0, 1);
            Due.due("user(0, 5) of " + u, x.user(0, 5), 2 * u * u);
            Due.due("user(0, 6) of " + u, x.user(0, 6), 2 * u);
            x.rollBack(0, 1);
            x.write(0, 1);
            Due.due("user(0, 5) of " + u, x.user(0, 5), 3 * u * u);
            Due.due("user(0, 6) of " + u, x.user(0, 6), 2 * u);
            x.write(0, 1);
            Due.due("user(0, 5) of " + u, x.user(0, 5), 3 * u * u);
            Due.due("user(1, 5) of " + u, x.user(1, 5), 0);
        }
    }
}
