/** Promises 11 to 14: letters and proofs. */
public final class LetterTest {
    private LetterTest() {
    }

    public static void main(String[] args) {
        promise11SendLetter();
        promise11SendLetterErrors();
        promise12ReadLetter();
        promise12LettersCarryWhatWasKnown();
        promise12Alarm4();
        promise12ReadingWithAnAlarm();
        promise12ProofOfAnAlarmWithoutOne();
        promise13LoseLetter();
        promise14PassProof();
        promise14ProofThatIsNotNeeded();
        promise14ProofForAnAlarmWithoutOne();
        promise14PassProofErrors();
        Due.finish();
    }

    /** Users 0 and 1 of a store for some users have signed in different views. */
    private static ForkedStore forked(int users) {
        ForkedStore x = Due.storeFor(users);
        x.fork(0, 2);
        x.write(0, 1);
        x.write(1, 2);
        return x;
    }

    private static void promise11SendLetter() {
        for (int u = 2; u <= 5; u++) {
            ForkedStore x = Due.storeFor(u);
            Due.due("sendLetter(0, 1)", x.sendLetter(0, 1), 1);
            Due.due("user(0, 6)", x.user(0, 6), u);
            Due.due("user(1, 6)", x.user(1, 6), 0);
            Due.due("user(1, 3)", x.user(1, 3), 1);
            Due.due("sendLetter(0, 1)", x.sendLetter(0, 1), 2);
            Due.due("sendLetter(1, 0)", x.sendLetter(1, 0), 1);
            Due.due("count(5)", x.count(5), 3);
            Due.due("user(0, 5)", x.user(0, 5), 0);
            Due.due("user(0, 6)", x.user(0, 6), 2 * u);
        }
        ForkedStore x = forked(2);
        x.sendLetter(0, 1);
        x.readLetter(1);
        Due.due("sendLetter(1, 0) with an alarm", x.sendLetter(1, 0), 1);
        Due.due("user(1, 6)", x.user(1, 6), 4);
    }

    private static void promise11SendLetterErrors() {
        ForkedStore x = new ForkedStore();
        for (int i = 1; i <= 4; i++) {
            Due.due("sendLetter(" + i % 2 + ", 2)", x.sendLetter(i % 2, 2), i);
        }
        String before = Due.picture(x);
        Due.due("sendLetter(0, 2)", x.sendLetter(0, 2), ForkedStore.FULL);
        Due.due("sendLetter(2, 2)", x.sendLetter(2, 2), ForkedStore.BAD_VALUE);
        Due.due("sendLetter(0, 0)", x.sendLetter(0, 0), ForkedStore.BAD_VALUE);
        Due.due("sendLetter(3, 3)", x.sendLetter(3, 3), ForkedStore.UNKNOWN);
        Due.due("sendLetter(3, 2)", x.sendLetter(3, 2), ForkedStore.UNKNOWN);
        Due.due("sendLetter(0, 3)", x.sendLetter(0, 3), ForkedStore.UNKNOWN);
        Due.due("sendLetter(-1, 0)", x.sendLetter(-1, 0), ForkedStore.UNKNOWN);
        Due.due("sendLetter(0, -1)", x.sendLetter(0, -1), ForkedStore.UNKNOWN);
        Due.due("after errors", Due.picture(x), before);
        Due.due("sendLetter(2, 0)", x.sendLetter(2, 0), 1);
        x.readLetter(2);
        Due.due("sendLetter(0, 2)", x.sendLetter(0, 2), 4);
    }

    private static void promise12ReadLetter() {
        ForkedStore x = new ForkedStore();
        x.write(0, 1);
        x.sendLetter(0, 1);
        x.sendLetter(0, 1);
        x.sendLetter(2, 1);
        Due.due("readLetter(1)", x.readLetter(1), 1);
        Due.due("known of 1", Due.vector(x, 1, 1), "1 0 0");
        Due.due("signed of 1", Due.vector(x, 1, 0), "0 0 0");
        Due.due("user(1, 3)", x.user(1, 3), 2);
        Due.due("the same vector", x.readLetter(1), 0);
        Due.due("a lesser vector", x.readLetter(1), 0);
        Due.due("known of 1", Due.vector(x, 1, 1), "1 0 0");
        Due.due("user(1, 1)", x.user(1, 1), 0);
        Due.due("user(1, 6)", x.user(1, 6), 0);
        String before = Due.picture(x);
        Due.due("readLetter(1)", x.readLetter(1), ForkedStore.NONE);
        Due.due("readLetter(3)", x.readLetter(3), ForkedStore.UNKNOWN);
        Due.due("readLetter(-1)", x.readLetter(-1), ForkedStore.UNKNOWN);
        Due.due("after errors", Due.picture(x), before);
        Due.due("write(1, 1)", x.write(1, 1), 0);
        Due.due("signed of 1", Due.vector(x, 1, 0), "1 1 0");
    }

    /** The box keeps the order, and what the senders knew when they sent. */
    private static void promise12LettersCarryWhatWasKnown() {
        ForkedStore x = new ForkedStore();
        for (int i = 1; i <= 4; i++) {
            x.write(0, i);
            x.sendLetter(0, 1);
        }
        x.write(0, 5);
        for (int i = 1; i <= 4; i++) {
            Due.due("readLetter(1)", x.readLetter(1), 1);
            Due.due("known of 1", Due.vector(x, 1, 1), i + " 0 0");
            x.sendLetter(2, 1);
        }
        Due.due("readLetter(1)", x.readLetter(1), 0);
        x.sendLetter(1, 2);
        Due.due("readLetter(2)", x.readLetter(2), 1);
        Due.due("a known vector is passed on", Due.vector(x, 2, 1), "4 0 0");
    }

    private static void promise12Alarm4() {
        ForkedStore x = forked(3);
        x.sendLetter(0, 1);
        Due.due("readLetter(1)", x.readLetter(1), 2);
        Due.due("user(1, 1)", x.user(1, 1), 4);
        Due.due("known of 1", Due.vector(x, 1, 1), "0 1 0");
        Due.due("first", Due.vector(x, 1, 2), "0 1 0");
        Due.due("second", Due.vector(x, 1, 3), "1 0 0");
        Due.due("user(1, 7)", x.user(1, 7), 0);
        Due.due("user(1, 3)", x.user(1, 3), 0);
        Due.due("write(1, 1)", x.write(1, 1), ForkedStore.NOT_POSSIBLE);
        Due.due("read(1, 1)", x.read(1, 1), ForkedStore.NOT_POSSIBLE);
        Due.due("check(1)", x.check(1), ForkedStore.NOT_POSSIBLE);
        Due.due("user(1, 5)", x.user(1, 5), 9);
        Due.due("user(0, 1)", x.user(0, 1), 0);
    }

    private static void promise12ReadingWithAnAlarm() {
        ForkedStore x = Due.storeFor(4);
        x.write(0, 1);
        x.rollBack(0, 1);
        Due.due("read(0, 0)", x.read(0, 0), 1);
        x.sendLetter(0, 1);
        Due.due("readLetter(1)", x.readLetter(1), 1);
        Due.due("write(2, 1)", x.write(2, 1), 0);
        x.rollBack(0, 1);
        Due.due("read(1, 1)", x.read(1, 1), 3);
        x.sendLetter(2, 0);
        x.sendLetter(1, 3);
        x.sendLetter(3, 1);
        Due.due("readLetter(3)", x.readLetter(3), 1);
        x.sendLetter(3, 0);
        Due.due("readLetter(0)", x.readLetter(0), 2);
        Due.due("its alarm stays", x.user(0, 1), 1);
        Due.due("known of 0", Due.vector(x, 0, 1), "1 0 0 0");
        Due.due("readLetter(0)", x.readLetter(0), 0);
        Due.due("readLetter(1)", x.readLetter(1), 0);
        Due.due("its alarm stays", x.user(1, 1), 3);
        // With an alarm, a greater vector is still learnt.
        ForkedStore y = new ForkedStore();
        y.fork(0, 1);
        y.write(1, 1);
        y.rollBack(0, 1);
        Due.due("read(1, 1)", y.read(1, 1), 1);
        y.sendLetter(1, 0);
        Due.due("readLetter(0)", y.readLetter(0), 1);
        Due.due("read(0, 0)", y.read(0, 0), 3);
        y.sendLetter(1, 2);
        Due.due("readLetter(2)", y.readLetter(2), 1);
        y.reset(3);
        y.write(0, 1);
        y.write(1, 1);
        y.fork(0, 4);
        y.rollBack(0, 1);
        Due.due("read(1, 1)", y.read(1, 1), 1);
        y.write(2, 1);
        y.sendLetter(2, 1);
        Due.due("readLetter(1) with an alarm", y.readLetter(1), 1);
        Due.due("known of 1", Due.vector(y, 1, 1), "1 1 1");
        Due.due("signed of 1", Due.vector(y, 1, 0), "1 1 0");
        Due.due("its alarm stays", y.user(1, 1), 1);
        Due.due("user(1, 2)", y.user(1, 2), 0);
    }

    private static void promise12ProofOfAnAlarmWithoutOne() {
        ForkedStore x = new ForkedStore();
        x.write(1, 1);
        x.rollBack(0, 1);
        Due.due("read(1, 1)", x.read(1, 1), 1);
        Due.due("user(1, 2)", x.user(1, 2), 0);
        x.write(0, 1);
        x.sendLetter(0, 1);
        x.write(0, 2);
        x.sendLetter(0, 1);
        Due.due("readLetter(1)", x.readLetter(1), 2);
        Due.due("user(1, 1)", x.user(1, 1), 1);
        Due.due("user(1, 2)", x.user(1, 2), 1);
        Due.due("user(1, 7)", x.user(1, 7), 0);
        Due.due("first", Due.vector(x, 1, 2), "0 1 0");
        Due.due("second", Due.vector(x, 1, 3), "1 0 0");
        Due.due("readLetter(1)", x.readLetter(1), 2);
        Due.due("the first proof stays", Due.vector(x, 1, 3), "1 0 0");
    }

    private static void promise13LoseLetter() {
        ForkedStore x = new ForkedStore();
        x.sendLetter(2, 1);
        x.write(0, 1);
        x.sendLetter(0, 1);
        x.sendLetter(2, 1);
        Due.due("loseLetter(1)", x.loseLetter(1), 2);
        Due.due("user(1, 3)", x.user(1, 3), 2);
        Due.due("the second letter is read", x.readLetter(1), 1);
        Due.due("loseLetter(1)", x.loseLetter(1), 0);
        String before = Due.picture(x);
        Due.due("loseLetter(1)", x.loseLetter(1), ForkedStore.NONE);
        Due.due("loseLetter(0)", x.loseLetter(0), ForkedStore.NONE);
        Due.due("loseLetter(3)", x.loseLetter(3), ForkedStore.UNKNOWN);
        Due.due("loseLetter(-1)", x.loseLetter(-1), ForkedStore.UNKNOWN);
        Due.due("after errors", Due.picture(x), before);
        Due.due("known of 1", Due.vector(x, 1, 1), "1 0 0");
        x = forked(2);
        x.sendLetter(0, 1);
        Due.due("loseLetter(1)", x.loseLetter(1), 0);
        Due.due("a lost letter raises no alarm", x.user(1, 1), 0);
    }

    private static void promise14PassProof() {
        ForkedStore x = forked(4);
        x.sendLetter(0, 1);
        x.readLetter(1);
        int sent = x.user(1, 6);
        Due.due("passProof(1, 2)", x.passProof(1, 2), 1);
        Due.due("user(1, 6)", x.user(1, 6), sent + 8);
        Due.due("user(1, 7)", x.user(1, 7), 0);
        Due.due("user(2, 1)", x.user(2, 1), 5);
        Due.due("user(2, 2)", x.user(2, 2), 1);
        Due.due("user(2, 7)", x.user(2, 7), 1);
        Due.due("user(2, 6)", x.user(2, 6), 0);
        Due.due("first", Due.vector(x, 2, 2), "0 1 0 0");
        Due.due("second", Due.vector(x, 2, 3), "1 0 0 0");
        Due.due("known of 2", Due.vector(x, 2, 1), "0 0 0 0");
        Due.due("read(2, 2)", x.read(2, 2), ForkedStore.NOT_POSSIBLE);
        Due.due("passProof(2, 3)", x.passProof(2, 3), 1);
        Due.due("user(3, 7)", x.user(3, 7), 2);
        Due.due("first", Due.vector(x, 3, 2), "0 1 0 0");
        Due.due("passProof(3, 0)", x.passProof(3, 0), 1);
        Due.due("user(0, 7)", x.user(0, 7), 3);
        Due.due("count(2)", x.count(2), 4);
        Due.due("count(3)", x.count(3), 4);
    }

    private static void promise14ProofThatIsNotNeeded() {
        ForkedStore x = forked(3);
        x.sendLetter(0, 1);
        x.sendLetter(1, 0);
        x.readLetter(0);
        x.readLetter(1);
        int sent = x.user(0, 6);
        Due.due("passProof(0, 1)", x.passProof(0, 1), 0);
        Due.due("user(0, 6)", x.user(0, 6), sent + 6);
        Due.due("user(1, 1)", x.user(1, 1), 4);
        Due.due("user(1, 7)", x.user(1, 7), 0);
        Due.due("first", Due.vector(x, 1, 2), "0 1 0");
        Due.due("passProof(0, 2)", x.passProof(0, 2), 1);
        Due.due("passProof(1, 2)", x.passProof(1, 2), 0);
        Due.due("first", Due.vector(x, 2, 2), "1 0 0");
    }

    private static void promise14ProofForAnAlarmWithoutOne() {
        ForkedStore x = forked(4);
        x.write(0, 1);
        x.rollBack(0, 1);
        Due.due("read(0, 0)", x.read(0, 0), 1);
        x.sendLetter(0, 1);
        x.readLetter(1);
        Due.due("passProof(1, 0)", x.passProof(1, 0), 0);
        Due.due("user(0, 1)", x.user(0, 1), 1);
        Due.due("user(0, 2)", x.user(0, 2), 1);
        Due.due("user(0, 7)", x.user(0, 7), 1);
        Due.due("second", Due.vector(x, 0, 3), "2 0 0 0");
    }

    private static void promise14PassProofErrors() {
        ForkedStore x = forked(3);
        x.sendLetter(0, 1);
        x.readLetter(1);
        x.write(0, 2);
        x.rollBack(0, 1);
        x.read(0, 0);
        String before = Due.picture(x);
        Due.due("passProof(3, 0)", x.passProof(3, 0), ForkedStore.UNKNOWN);
        Due.due("passProof(-1, 0)", x.passProof(-1, 0), ForkedStore.UNKNOWN);
        Due.due("passProof(1, 3)", x.passProof(1, 3), ForkedStore.UNKNOWN);
        Due.due("passProof(1, -1)", x.passProof(1, -1), ForkedStore.UNKNOWN);
        Due.due("passProof(3, 3)", x.passProof(3, 3), ForkedStore.UNKNOWN);
        Due.due("passProof(1, 1)", x.passProof(1, 1), ForkedStore.BAD_VALUE);
        Due.due("passProof(2, 2)", x.passProof(2, 2), ForkedStore.BAD_VALUE);
        Due.due("passProof(2, 0)", x.passProof(2, 0), ForkedStore.NOT_POSSIBLE);
        Due.due("an alarm without a proof", x.passProof(0, 2), ForkedStore.NOT_POSSIBLE);
        Due.due("after errors", Due.picture(x), before);
    }
}
