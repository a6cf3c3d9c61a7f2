/** Promises 7 to 10: what the store does. */
public final class StoreTest {
    private StoreTest() {
    }

    public static void main(String[] args) {
        promise7Fork();
        promise7ForkCopiesWhatIsRemembered();
        promise7ForkErrors();
        promise7ForkFull();
        promise8Attach();
        promise9RollBack();
        promise9OnlyFiveAreRemembered();
        promise9RollBackErrors();
        promise10Mix();
        promise10MixOnlyLaterEntries();
        promise10MixErrors();
        Due.finish();
    }

    private static void promise7Fork() {
        ForkedStore x = Due.storeFor(4);
        x.write(0, 5);
        Due.due("fork(0, 10)", x.fork(0, 10), 1);
        Due.due("count(1)", x.count(1), 2);
        Due.due("view(0, 0)", x.view(0, 0), 5);
        Due.due("view(1, 0)", x.view(1, 0), 10);
        Due.due("user(3, 0)", x.user(3, 0), 1);
        Due.due("user(2, 0)", x.user(2, 0), 0);
        Due.due("content(1, 0)", x.content(1, 0), 5);
        Due.due("entry(1, 0)", Due.entry(x, 1, 0), "1 0 0 0");
        x.write(0, 6);
        Due.due("content(1, 0)", x.content(1, 0), 5);
        x.write(1, 7);
        Due.due("content(0, 1)", x.content(0, 1), 0);
        Due.due("entry(1, 1)", Due.entry(x, 1, 1), "1 1 0 0");
        Due.due("fork(1, 8)", x.fork(1, 8), 2);
        Due.due("view(2, 0)", x.view(2, 0), 8);
        Due.due("content(2, 1)", x.content(2, 1), 7);
        Due.due("fork of all who are attached", x.fork(2, 8), 3);
        Due.due("view(2, 0)", x.view(2, 0), 0);
    }

    private static void promise7ForkCopiesWhatIsRemembered() {
        ForkedStore x = new ForkedStore();
        for (int i = 1; i <= 7; i++) {
            x.write(0, i);
        }
        x.fork(0, 2);
        Due.due("view(1, 1)", x.view(1, 1), 5);
        x.write(0, 8);
        x.write(1, 9);
        Due.due("rollBack(1, 3)", x.rollBack(1, 3), 2);
        Due.due("content(1, 0)", x.content(1, 0), 5);
        Due.due("content(1, 1)", x.content(1, 1), 0);
        Due.due("rollBack(0, 5)", x.rollBack(0, 5), 0);
        Due.due("content(0, 0)", x.content(0, 0), 3);
        Due.due("rollBack(1, 2)", x.rollBack(1, 2), 0);
        Due.due("content(1, 0)", x.content(1, 0), 3);
    }

    private static void promise7ForkErrors() {
        ForkedStore x = new ForkedStore();
        x.fork(0, 4);
        String before = Due.picture(x);
        Due.due("fork(2, 1)", x.fork(2, 1), ForkedStore.UNKNOWN);
        Due.due("fork(-1, 0)", x.fork(-1, 0), ForkedStore.UNKNOWN);
        Due.due("fork(6, 1)", x.fork(6, 1), ForkedStore.UNKNOWN);
        Due.due("fork(most, 1)", x.fork(Integer.MAX_VALUE, 1), ForkedStore.UNKNOWN);
        Due.due("fork(0, 0)", x.fork(0, 0), ForkedStore.BAD_VALUE);
        Due.due("fork(0, 8)", x.fork(0, 8), ForkedStore.BAD_VALUE);
        Due.due("fork(0, 9)", x.fork(0, 9), ForkedStore.BAD_VALUE);
        Due.due("fork(0, 4)", x.fork(0, 4), ForkedStore.BAD_VALUE);
        Due.due("fork(0, 5)", x.fork(0, 5), ForkedStore.BAD_VALUE);
        Due.due("fork(0, -1)", x.fork(0, -1), ForkedStore.BAD_VALUE);
        Due.due("fork(0, least)", x.fork(0, Integer.MIN_VALUE), ForkedStore.BAD_VALUE);
        Due.due("fork(0, 32)", x.fork(0, 32), ForkedStore.BAD_VALUE);
        Due.due("after errors", Due.picture(x), before);
    }

    private static void promise7ForkFull() {
        ForkedStore x = new ForkedStore();
        for (int i = 1; i <= 5; i++) {
            Due.due("fork(" + (i - 1) + ", 1)", x.fork(i - 1, 1), i);
        }
        String before = Due.picture(x);
        Due.due("fork(5, 1)", x.fork(5, 1), ForkedStore.FULL);
        Due.due("fork(5, 2)", x.fork(5, 2), ForkedStore.BAD_VALUE);
        Due.due("fork(5, 0)", x.fork(5, 0), ForkedStore.BAD_VALUE);
        Due.due("fork(6, 1)", x.fork(6, 1), ForkedStore.UNKNOWN);
        Due.due("after errors", Due.picture(x), before);
        x.reset(3);
        Due.due("fork(0, 1) after reset", x.fork(0, 1), 1);
        Due.due("view(1, 3)", x.view(1, 3), 0);
    }

    private static void promise8Attach() {
        ForkedStore x = new ForkedStore();
        x.fork(0, 2);
        x.write(0, 4);
        Due.due("attach(2, 1)", x.attach(2, 1), 0);
        Due.due("view(1, 0)", x.view(1, 0), 6);
        Due.due("view(0, 0)", x.view(0, 0), 1);
        Due.due("attach(2, 1)", x.attach(2, 1), 1);
        Due.due("attach(2, 0)", x.attach(2, 0), 1);
        Due.due("user(2, 0)", x.user(2, 0), 0);
        String before = Due.picture(x);
        Due.due("attach(3, 0)", x.attach(3, 0), ForkedStore.UNKNOWN);
        Due.due("attach(-1, 0)", x.attach(-1, 0), ForkedStore.UNKNOWN);
        Due.due("attach(0, 2)", x.attach(0, 2), ForkedStore.UNKNOWN);
        Due.due("attach(0, -1)", x.attach(0, -1), ForkedStore.UNKNOWN);
        Due.due("attach(0, 6)", x.attach(0, 6), ForkedStore.UNKNOWN);
        Due.due("after errors", Due.picture(x), before);
        x.attach(0, 1);
        Due.due("read(0, 0)", x.read(0, 0), 1);
        Due.due("attach(0, 0) with an alarm", x.attach(0, 0), 1);
        Due.due("read(0, 0)", x.read(0, 0), ForkedStore.NOT_POSSIBLE);
    }

    private static void promise9RollBack() {
        ForkedStore x = new ForkedStore();
        x.write(0, 1);
        x.read(1, 0);
        x.write(0, 2);
        Due.due("rollBack(0, 1)", x.rollBack(0, 1), 2);
        Due.due("content(0, 0)", x.content(0, 0), 1);
        Due.due("entry(0, 0)", Due.entry(x, 0, 0), "1 0 0");
        Due.due("entry(0, 1)", Due.entry(x, 0, 1), "1 1 0");
        Due.due("signed of 0", Due.vector(x, 0, 0), "2 1 0");
        Due.due("count(4)", x.count(4), 3);
        Due.due("user(0, 4)", x.user(0, 4), 2);
        Due.due("user(0, 6)", x.user(0, 6), 6);
        Due.due("write(1, 9)", x.write(1, 9), 0);
        Due.due("view(0, 1)", x.view(0, 1), 3);
        Due.due("rollBack(0, 3)", x.rollBack(0, 3), 0);
        Due.due("entry(0, 1)", Due.entry(x, 0, 1), "0 0 0");
        Due.due("content(0, 0)", x.content(0, 0), 0);
        Due.due("rollBack(0, 1)", x.rollBack(0, 1), ForkedStore.NONE);
    }

    private static void promise9OnlyFiveAreRemembered() {
        ForkedStore x = new ForkedStore();
        for (int i = 1; i <= 9; i++) {
            x.write(0, i);
            Due.due("view(0, 1)", x.view(0, 1), Math.min(i, 5));
        }
        Due.due("rollBack(0, 2)", x.rollBack(0, 2), 3);
        Due.due("content(0, 0)", x.content(0, 0), 7);
        Due.due("write(1, 1)", x.write(1, 1), 0);
        Due.due("view(0, 1)", x.view(0, 1), 4);
        Due.due("rollBack(0, 5)", x.rollBack(0, 5), ForkedStore.NONE);
        Due.due("rollBack(0, 4)", x.rollBack(0, 4), 0);
        Due.due("content(0, 0)", x.content(0, 0), 4);
        Due.due("content(0, 1)", x.content(0, 1), 0);
        x.write(2, 1);
        Due.due("an operation with an alarm is not remembered", x.read(0, 0), 1);
        Due.due("view(0, 1)", x.view(0, 1), 1);
    }

    private static void promise9RollBackErrors() {
        ForkedStore x = new ForkedStore();
        x.write(0, 1);
        x.write(0, 2);
        String before = Due.picture(x);
        Due.due("rollBack(1, 1)", x.rollBack(1, 1), ForkedStore.UNKNOWN);
        Due.due("rollBack(-1, 0)", x.rollBack(-1, 0), ForkedStore.UNKNOWN);
        Due.due("rollBack(0, 0)", x.rollBack(0, 0), ForkedStore.BAD_VALUE);
        Due.due("rollBack(0, -1)", x.rollBack(0, -1), ForkedStore.BAD_VALUE);
        Due.due("rollBack(0, 6)", x.rollBack(0, 6), ForkedStore.BAD_VALUE);
        Due.due("rollBack(0, least)", x.rollBack(0, Integer.MIN_VALUE), ForkedStore.BAD_VALUE);
        Due.due("rollBack(0, 3)", x.rollBack(0, 3), ForkedStore.NONE);
        Due.due("rollBack(0, 5)", x.rollBack(0, 5), ForkedStore.NONE);
        Due.due("after errors", Due.picture(x), before);
    }

    private static void promise10Mix() {
        ForkedStore x = Due.storeFor(4);
        x.write(0, 1);
        x.fork(0, 12);
        x.write(0, 2);
        x.write(2, 3);
        x.write(3, 4);
        String other = Due.entry(x, 1, 0) + Due.entry(x, 1, 2) + Due.entry(x, 1, 3);
        Due.due("mix(0, 1)", x.mix(0, 1), 2);
        Due.due("content(0, 0)", x.content(0, 0), 2);
        Due.due("content(0, 2)", x.content(0, 2), 3);
        Due.due("content(0, 3)", x.content(0, 3), 4);
        Due.due("entry(0, 0)", Due.entry(x, 0, 0), "2 0 0 0");
        Due.due("entry(0, 2)", Due.entry(x, 0, 2), "1 0 1 0");
        Due.due("entry(0, 3)", Due.entry(x, 0, 3), "1 0 1 1");
        Due.due("view(0, 0)", x.view(0, 0), 15);
        Due.due("view(1, 0)", x.view(1, 0), 0);
        Due.due("view(0, 1)", x.view(0, 1), 0);
        Due.due("rollBack(0, 1)", x.rollBack(0, 1), ForkedStore.NONE);
        Due.due("view(1, 1)", x.view(1, 1), 3);
        Due.due("the other view stays", Due.entry(x, 1, 0) + Due.entry(x, 1, 2) + Due.entry(x, 1, 3), other);
        Due.due("count(1)", x.count(1), 2);
        Due.due("content(1, 0)", x.content(1, 0), 1);
    }

    private static void promise10MixOnlyLaterEntries() {
        ForkedStore x = new ForkedStore();
        x.write(0, 1);
        x.fork(0, 2);
        x.write(1, 2);
        x.read(1, 0);
        x.write(0, 3);
        x.write(2, 4);
        Due.due("mix(1, 0)", x.mix(1, 0), 2);
        Due.due("entry(1, 1)", Due.entry(x, 1, 1), "1 2 0");
        Due.due("entry(1, 0)", Due.entry(x, 1, 0), "2 0 0");
        Due.due("content(1, 1)", x.content(1, 1), 2);
        Due.due("view(1, 0)", x.view(1, 0), 7);
        Due.due("mix(1, 0) again", x.mix(1, 0), 0);
        Due.due("mix(0, 1)", x.mix(0, 1), 1);
        Due.due("view(0, 0)", x.view(0, 0), 7);
        // No entry is replaced, but users are attached, those with an alarm too.
        x.reset(3);
        x.write(0, 1);
        x.fork(0, 4);
        x.rollBack(0, 1);
        Due.due("read(0, 0)", x.read(0, 0), 1);
        Due.due("mix(1, 0)", x.mix(1, 0), 0);
        Due.due("view(1, 0)", x.view(1, 0), 7);
        Due.due("view(1, 1)", x.view(1, 1), 0);
        Due.due("content(1, 0)", x.content(1, 0), 1);
    }

    private static void promise10MixErrors() {
        ForkedStore x = new ForkedStore();
        x.fork(0, 2);
        x.write(0, 1);
        String before = Due.picture(x);
        Due.due("mix(2, 0)", x.mix(2, 0), ForkedStore.UNKNOWN);
        Due.due("mix(0, 2)", x.mix(0, 2), ForkedStore.UNKNOWN);
        Due.due("mix(2, 2)", x.mix(2, 2), ForkedStore.UNKNOWN);
        Due.due("mix(-1, 0)", x.mix(-1, 0), ForkedStore.UNKNOWN);
        Due.due("mix(0, -1)", x.mix(0, -1), ForkedStore.UNKNOWN);
        Due.due("mix(1, 1)", x.mix(1, 1), ForkedStore.BAD_VALUE);
        Due.due("mix(0, 0)", x.mix(0, 0), ForkedStore.BAD_VALUE);
        Due.due("after errors", Due.picture(x), before);
    }
}
