/** Collects the calls whose answers are not the ones that are due. */
final class Due {
    private static int calls = 0;
    private static int wrong = 0;

    private Due() {
    }

    static void due(String call, long got, long want) {
        calls++;
        if (got != want) {
            wrong++;
            System.out.println(call + " answered " + got + ", due is " + want);
        }
    }

    static void due(String call, String got, String want) {
        calls++;
        if (!got.equals(want)) {
            wrong++;
            System.out.println(call + " answered " + got + ", due is " + want);
        }
    }

    static int wrongSoFar() {
        return wrong;
    }

    /** Tells the outcome, and ends with exit code 1 if an answer was wrong. */
    static void finish() {
        System.out.println(wrong == 0 ? calls + " answers are as due" : wrong + " of " + calls + " answers are not as due");
        if (wrong != 0) {
            System.exit(1);
        }
    }

    static ForkedStore storeFor(int users) {
        ForkedStore x = new ForkedStore();
        x.reset(users);
        return x;
    }

    static void typeAll(ForkedStore x, String text) {
        for (int i = 0; i < text.length(); i++) {
            x.type(text.charAt(i));
        }
    }

    /** A vector of a user, place by place. */
    static String vector(ForkedStore x, int user, int kind) {
        StringBuilder told = new StringBuilder();
        for (int place = 0; place < x.count(0); place++) {
            told.append(place == 0 ? "" : " ").append(x.vector(user, kind, place));
        }
        return told.toString();
    }

    /** The vector of an entry, place by place. */
    static String entry(ForkedStore x, int view, int owner) {
        StringBuilder told = new StringBuilder();
        for (int place = 0; place < x.count(0); place++) {
            told.append(place == 0 ? "" : " ").append(x.entry(view, owner, place));
        }
        return told.toString();
    }

    /** All that the store tells, but for the text: two stores that differ here differ in state. */
    static String picture(ForkedStore x) {
        StringBuilder told = new StringBuilder();
        for (int what = 0; what <= 5; what++) {
            told.append(x.count(what)).append(',');
        }
        int users = x.count(0);
        for (int i = 0; i < users; i++) {
            told.append("\nuser ").append(i).append(": ").append(x.lastRead(i)).append(',').append(x.check(i));
            for (int what = 0; what <= 7; what++) {
                told.append(',').append(x.user(i, what));
            }
            for (int kind = 0; kind <= 3; kind++) {
                told.append(" (").append(vector(x, i, kind)).append(')');
            }
            for (int j = 0; j < users; j++) {
                told.append(',').append(x.compare(i, j, true)).append(',').append(x.compare(i, j, false));
            }
        }
        for (int v = 0; v < x.count(1); v++) {
            told.append("\nview ").append(v).append(':');
            for (int what = 0; what <= 3; what++) {
                told.append(',').append(x.view(v, what));
            }
            for (int i = 0; i < users; i++) {
                told.append(" (").append(entry(x, v, i)).append(") ").append(x.content(v, i));
            }
        }
        told.append('\n').append(x.forkedPairs()).append(',').append(x.tellingLetter()).append(',').append(x.unaware());
        return told.toString();
    }
}
