/** Promises 15 to 24: what is told. */
public final class TellingTest {
    private TellingTest() {
    }

    public static void main(String[] args) {
        promise15Count();
        promise16User();
        promise16UserErrors();
        promise17Vector();
        promise18Entry();
        promise19Content();
        promise20View();
        promise20ForkedView();
        promise21Compare();
        promise22ForkedPairs();
        promise23TellingLetter();
        promise24Unaware();
        tellingChangesNothing();
        Due.finish();
    }

    /** User 1 has been shown another view than user 0; user 2 has seen what user 0 wrote. */
    private static ForkedStore forked(int users) {
        ForkedStore x = Due.storeFor(users);
        x.fork(0, 2);
        x.write(0, 1);
        x.write(1, 2);
        x.read(2, 0);
        return x;
    }

    private static void promise15Count() {
        ForkedStore x = Due.storeFor(5);
        Due.due("count(0)", x.count(0), 5);
        x.fork(0, 2);
        x.fork(0, 4);
        Due.due("count(1)", x.count(1), 3);
        x.write(0, 1);
        x.write(1, 1);
        x.read(1, 0);
        Due.due("count(4)", x.count(4), 3);
        x.sendLetter(0, 1);
        x.sendLetter(0, 1);
        x.sendLetter(0, 2);
        Due.due("count(5)", x.count(5), 3);
        x.readLetter(1);
        Due.due("count(5)", x.count(5), 2);
        Due.due("count(2)", x.count(2), 1);
        Due.due("count(3)", x.count(3), 1);
        x.readLetter(2);
        Due.due("read(2, 2)", x.read(2, 2), 3);
        Due.due("count(2)", x.count(2), 2);
        Due.due("count(3)", x.count(3), 1);
        Due.due("count(4)", x.count(4), 3);
        x.rollBack(0, 1);
        Due.due("operations taken back still count", x.count(4), 3);
        Due.due("count(-1)", x.count(-1), ForkedStore.BAD_VALUE);
        Due.due("count(6)", x.count(6), ForkedStore.BAD_VALUE);
        Due.due("count(most)", x.count(Integer.MAX_VALUE), ForkedStore.BAD_VALUE);
        Due.due("count(least)", x.count(Integer.MIN_VALUE), ForkedStore.BAD_VALUE);
    }

    private static void promise16User() {
        ForkedStore x = forked(3);
        Due.due("user(1, 0)", x.user(1, 0), 1);
        Due.due("user(2, 0)", x.user(2, 0), 0);
        x.sendLetter(0, 1);
        x.sendLetter(2, 1);
        Due.due("user(1, 3)", x.user(1, 3), 2);
        Due.due("user(1, 7)", x.user(1, 7), ForkedStore.NONE);
        x.readLetter(1);
        Due.due("user(1, 1)", x.user(1, 1), 4);
        Due.due("user(1, 2)", x.user(1, 2), 1);
        Due.due("user(1, 3)", x.user(1, 3), 1);
        Due.due("user(1, 4)", x.user(1, 4), 1);
        Due.due("user(1, 5)", x.user(1, 5), 9);
        Due.due("user(1, 6)", x.user(1, 6), 3);
        Due.due("user(1, 7)", x.user(1, 7), 0);
        x.passProof(1, 0);
        Due.due("user(1, 6)", x.user(1, 6), 9);
        Due.due("user(0, 6)", x.user(0, 6), 6);
        Due.due("user(0, 7)", x.user(0, 7), 1);
        Due.due("user(2, 6)", x.user(2, 6), 6);
    }

    private static void promise16UserErrors() {
        ForkedStore x = new ForkedStore();
        Due.due("user(3, 0)", x.user(3, 0), ForkedStore.UNKNOWN);
        Due.due("user(-1, 0)", x.user(-1, 0), ForkedStore.UNKNOWN);
        Due.due("user(3, 8)", x.user(3, 8), ForkedStore.UNKNOWN);
        Due.due("user(least, 0)", x.user(Integer.MIN_VALUE, 0), ForkedStore.UNKNOWN);
        Due.due("user(0, 8)", x.user(0, 8), ForkedStore.BAD_VALUE);
        Due.due("user(0, -1)", x.user(0, -1), ForkedStore.BAD_VALUE);
        Due.due("user(0, 7)", x.user(0, 7), ForkedStore.NONE);
    }

    private static void promise17Vector() {
        ForkedStore x = forked(3);
        x.sendLetter(1, 2);
        x.write(0, 3);
        x.sendLetter(0, 2);
        Due.due("vector(2, 2, 0)", x.vector(2, 2, 0), ForkedStore.NONE);
        Due.due("vector(2, 3, 2)", x.vector(2, 3, 2), ForkedStore.NONE);
        x.readLetter(2);
        x.readLetter(2);
        Due.due("signed of 2", Due.vector(x, 2, 0), "1 0 1");
        Due.due("known of 2", Due.vector(x, 2, 1), "2 0 1");
        Due.due("first", Due.vector(x, 2, 2), "1 0 1");
        Due.due("second", Due.vector(x, 2, 3), "0 1 0");
        Due.due("vector(3, 0, 0)", x.vector(3, 0, 0), ForkedStore.UNKNOWN);
        Due.due("vector(-1, 0, 0)", x.vector(-1, 0, 0), ForkedStore.UNKNOWN);
        Due.due("vector(0, 0, 3)", x.vector(0, 0, 3), ForkedStore.UNKNOWN);
        Due.due("vector(0, 0, -1)", x.vector(0, 0, -1), ForkedStore.UNKNOWN);
        Due.due("vector(0, 4, 3)", x.vector(0, 4, 3), ForkedStore.UNKNOWN);
        Due.due("vector(0, 4, 0)", x.vector(0, 4, 0), ForkedStore.BAD_VALUE);
        Due.due("vector(0, -1, 0)", x.vector(0, -1, 0), ForkedStore.BAD_VALUE);
        Due.due("vector(0, 2, 0)", x.vector(0, 2, 0), ForkedStore.NONE);
        Due.due("vector(0, 2, 3)", x.vector(0, 2, 3), ForkedStore.UNKNOWN);
    }

    private static void promise18Entry() {
        ForkedStore x = forked(3);
        Due.due("entry(0, 0)", Due.entry(x, 0, 0), "1 0 0");
        Due.due("entry(0, 1)", Due.entry(x, 0, 1), "0 0 0");
        Due.due("entry(0, 2)", Due.entry(x, 0, 2), "1 0 1");
        Due.due("entry(1, 1)", Due.entry(x, 1, 1), "0 1 0");
        Due.due("entry(2, 0, 0)", x.entry(2, 0, 0), ForkedStore.UNKNOWN);
        Due.due("entry(-1, 0, 0)", x.entry(-1, 0, 0), ForkedStore.UNKNOWN);
        Due.due("entry(0, 3, 0)", x.entry(0, 3, 0), ForkedStore.UNKNOWN);
        Due.due("entry(0, -1, 0)", x.entry(0, -1, 0), ForkedStore.UNKNOWN);
        Due.due("entry(0, 0, 3)", x.entry(0, 0, 3), ForkedStore.UNKNOWN);
        Due.due("entry(0, 0, -1)", x.entry(0, 0, -1), ForkedStore.UNKNOWN);
        Due.due("entry(most, 0, 0)", x.entry(Integer.MAX_VALUE, 0, 0), ForkedStore.UNKNOWN);
    }

    private static void promise19Content() {
        ForkedStore x = forked(3);
        Due.due("content(0, 0)", x.content(0, 0), 1);
        Due.due("content(0, 1)", x.content(0, 1), 0);
        Due.due("content(1, 1)", x.content(1, 1), 2);
        Due.due("content(1, 0)", x.content(1, 0), 0);
        Due.due("content(2, 0)", x.content(2, 0), ForkedStore.UNKNOWN);
        Due.due("content(-1, 0)", x.content(-1, 0), ForkedStore.UNKNOWN);
        Due.due("content(0, 3)", x.content(0, 3), ForkedStore.UNKNOWN);
        Due.due("content(0, -1)", x.content(0, -1), ForkedStore.UNKNOWN);
    }

    private static void promise20View() {
        ForkedStore x = forked(4);
        Due.due("view(0, 0)", x.view(0, 0), 13);
        Due.due("view(1, 0)", x.view(1, 0), 2);
        Due.due("view(0, 1)", x.view(0, 1), 2);
        Due.due("view(1, 1)", x.view(1, 1), 1);
        Due.due("view(0, 2)", x.view(0, 2), 1);
        Due.due("view(0, 3)", x.view(0, 3), 2);
        x.write(0, 3);
        Due.due("view(0, 3)", x.view(0, 3), 3);
        Due.due("view(1, 3)", x.view(1, 3), 1);
        Due.due("view(2, 0)", x.view(2, 0), ForkedStore.UNKNOWN);
        Due.due("view(-1, 0)", x.view(-1, 0), ForkedStore.UNKNOWN);
        Due.due("view(2, 4)", x.view(2, 4), ForkedStore.UNKNOWN);
        Due.due("view(0, 4)", x.view(0, 4), ForkedStore.BAD_VALUE);
        Due.due("view(0, -1)", x.view(0, -1), ForkedStore.BAD_VALUE);
    }

    private static void promise20ForkedView() {
        ForkedStore x = forked(4);
        x.mix(0, 1);
        Due.due("view(0, 2)", x.view(0, 2), 0);
        Due.due("view(0, 3)", x.view(0, 3), ForkedStore.NONE);
        Due.due("view(1, 2)", x.view(1, 2), 1);
        Due.due("view(1, 3)", x.view(1, 3), 1);
        // Only the last two users' entries are incomparable.
        x.reset(5);
        x.fork(0, 16);
        x.write(4, 1);
        x.write(3, 1);
        x.mix(1, 0);
        Due.due("view(1, 2)", x.view(1, 2), 0);
        Due.due("view(0, 2)", x.view(0, 2), 1);
    }

    private static void promise21Compare() {
        ForkedStore x = forked(3);
        Due.due("compare(0, 0, true)", x.compare(0, 0, true), 0);
        Due.due("compare(0, 1, true)", x.compare(0, 1, true), 2);
        Due.due("compare(0, 2, true)", x.compare(0, 2, true), -1);
        Due.due("compare(2, 0, true)", x.compare(2, 0, true), 1);
        x.reset(3);
        x.write(0, 1);
        x.sendLetter(0, 1);
        x.readLetter(1);
        Due.due("compare(0, 1, true)", x.compare(0, 1, true), 0);
        Due.due("compare(0, 1, false)", x.compare(0, 1, false), 1);
        Due.due("compare(1, 0, false)", x.compare(1, 0, false), -1);
        Due.due("compare(1, 2, false)", x.compare(1, 2, false), 0);
        Due.due("compare(1, 2, true)", x.compare(1, 2, true), 1);
        Due.due("compare(3, 0, true)", x.compare(3, 0, true), ForkedStore.UNKNOWN);
        Due.due("compare(0, 3, true)", x.compare(0, 3, true), ForkedStore.UNKNOWN);
        Due.due("compare(-1, 0, false)", x.compare(-1, 0, false), ForkedStore.UNKNOWN);
        Due.due("compare(0, -1, false)", x.compare(0, -1, false), ForkedStore.UNKNOWN);
    }

    private static void promise22ForkedPairs() {
        ForkedStore x = Due.storeFor(5);
        Due.due("forkedPairs()", x.forkedPairs(), 0);
        for (int i = 1; i < 5; i++) {
            x.fork(0, 1 << i);
            x.write(i, i);
            Due.due("forkedPairs()", x.forkedPairs(), i * (i - 1) / 2);
        }
        x.write(0, 1);
        Due.due("forkedPairs()", x.forkedPairs(), 10);
        x = forked(3);
        Due.due("forkedPairs()", x.forkedPairs(), 2);
        x.sendLetter(0, 1);
        x.readLetter(1);
        Due.due("alarms do not matter", x.forkedPairs(), 2);
        // The known vectors count, not the signed ones.
        x.reset(3);
        x.fork(0, 2);
        x.write(0, 1);
        x.write(1, 1);
        x.sendLetter(1, 2);
        Due.due("forkedPairs()", x.forkedPairs(), 1);
        x.readLetter(2);
        Due.due("forkedPairs()", x.forkedPairs(), 2);
    }

    private static void promise23TellingLetter() {
        ForkedStore x = new ForkedStore();
        x.write(0, 1);
        Due.due("tellingLetter()", x.tellingLetter(), ForkedStore.NONE);
        x = forked(3);
        Due.due("tellingLetter()", x.tellingLetter(), 1);
        x.sendLetter(0, 1);
        Due.due("letters in boxes do not matter", x.tellingLetter(), 1);
        x.readLetter(1);
        Due.due("one with an alarm can send", x.tellingLetter(), 10);
        x.passProof(1, 0);
        Due.due("tellingLetter()", x.tellingLetter(), 12);
        x.passProof(1, 2);
        Due.due("tellingLetter()", x.tellingLetter(), ForkedStore.NONE);
        x.reset(5);
        x.fork(0, 16);
        x.write(3, 1);
        x.write(4, 1);
        Due.due("tellingLetter()", x.tellingLetter(), 34);
    }

    private static void promise24Unaware() {
        ForkedStore x = new ForkedStore();
        Due.due("unaware()", x.unaware(), 7);
        x.write(0, 1);
        x.write(1, 1);
        Due.due("unaware()", x.unaware(), 7);
        x.rollBack(0, 1);
        Due.due("whose check() is not 0", x.unaware(), 5);
        x.read(1, 1);
        Due.due("with an alarm", x.unaware(), 5);
        x = Due.storeFor(4);
        x.fork(0, 2);
        x.write(0, 1);
        x.write(1, 2);
        Due.due("whose known vector is not comparable", x.unaware(), 12);
        x.read(2, 1);
        Due.due("unaware()", x.unaware(), 8);
        x.sendLetter(0, 1);
        x.readLetter(1);
        x.passProof(1, 2);
        Due.due("vectors of users with an alarm matter", x.unaware(), 8);
        x.attach(3, 1);
        Due.due("unaware()", x.unaware(), 8);
        x.sendLetter(0, 3);
        x.readLetter(3);
        Due.due("unaware()", x.unaware(), 0);
        x.reset(2);
        x.write(0, 1);
        x.fork(0, 2);
        Due.due("a fork that nobody can find out yet", x.unaware(), 3);
        x.write(0, 2);
        Due.due("unaware()", x.unaware(), 3);
        x.read(1, 0);
        Due.due("unaware()", x.unaware(), 0);
    }

    private static void tellingChangesNothing() {
        ForkedStore x = forked(3);
        x.sendLetter(0, 1);
        String before = Due.picture(x);
        Due.due("told twice", Due.picture(x), before);
        Due.due("rollBack(0, 1)", x.rollBack(0, 1), 1);
        Due.due("readLetter(1)", x.readLetter(1), 2);
    }
}
