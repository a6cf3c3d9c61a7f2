/** Stores in which something has happened, for the tests to begin with. */
final class Scenes {
    private Scenes() {
    }

    /**
     * Every part holds something. User 0 has alarm 1 and no proof, user 1 alarm 4 and a proof, user 2 no alarm; two
     * views remember 3 and 4 operations; there are letters to users 0 and 2; the text writes, sends and reads.
     */
    static ForkedStore rich() {
        ForkedStore x = new ForkedStore();
        x.write(0, 5);
        x.read(1, 0);
        x.write(2, 7);
        x.fork(0, 2);
        x.write(0, 6);
        x.read(1, 2);
        x.sendLetter(0, 1);
        x.readLetter(1);
        x.rollBack(0, 1);
        x.read(0, 0);
        x.sendLetter(0, 2);
        x.sendLetter(1, 2);
        x.sendLetter(2, 0);
        Due.typeAll(x, "w29s21g22");
        return x;
    }

    /** The rich store with all six views. */
    static ForkedStore fullViews() {
        ForkedStore x = rich();
        for (int view = 2; view < 6; view++) {
            x.fork(view == 2 ? 0 : view - 1, 1);
        }
        return x;
    }

    /** The rich store with four letters to user 2. */
    static ForkedStore fullBox() {
        ForkedStore x = rich();
        x.sendLetter(1, 2);
        x.sendLetter(0, 2);
        return x;
    }

    /** The rich store with a text of sixty characters. */
    static ForkedStore fullText() {
        ForkedStore x = rich();
        for (int i = 0; i < 17; i++) {
            Due.typeAll(x, "r21");
        }
        return x;
    }

    /** The rich store with a text that ends within a command. */
    static ForkedStore brokenText() {
        ForkedStore x = rich();
        Due.typeAll(x, "r2");
        return x;
    }

    /** The rich store with a text whose fifth character is not allowed. */
    static ForkedStore faultyText() {
        ForkedStore x = rich();
        x.clearText();
        Due.typeAll(x, "w29rr1w28");
        return x;
    }

    /** View 0 remembers nothing, and its first two entries are incomparable. */
    static ForkedStore mixed() {
        ForkedStore x = apart(3);
        x.mix(0, 1);
        return x;
    }

    /** User 1 of three has raised this alarm; alarm 3 gave it no proof. */
    static ForkedStore alarmed(int alarm) {
        ForkedStore x = new ForkedStore();
        switch (alarm) {
            case 1:
                x.write(1, 1);
                x.rollBack(0, 1);
                x.read(1, 1);
                break;
            case 2:
                x.fork(0, 1);
                x.write(0, 1);
                x.write(2, 1);
                x.mix(0, 1);
                x.read(1, 1);
                break;
            case 3:
                x.fork(0, 1);
                x.write(0, 1);
                x.sendLetter(0, 1);
                x.readLetter(1);
                x.read(1, 1);
                break;
            case 4:
                x.fork(0, 1);
                x.write(0, 1);
                x.write(1, 1);
                x.sendLetter(0, 1);
                x.readLetter(1);
                break;
            default:
                x.fork(0, 1);
                x.write(0, 1);
                x.write(2, 1);
                x.sendLetter(2, 0);
                x.readLetter(0);
                x.passProof(0, 1);
                break;
        }
        return x;
    }

    /** Each user has written in a view of its own: all known vectors are incomparable in pairs. */
    static ForkedStore apart(int users) {
        ForkedStore x = Due.storeFor(users);
        for (int i = 1; i < users; i++) {
            x.fork(0, 1 << i);
        }
        for (int i = 0; i < users; i++) {
            x.write(i, 10 + i);
        }
        return x;
    }
}
