/**
 * Errors: each error of each promise, each place where several apply at once, and that a call which reports one
 * changes nothing: neither what is told, nor what is remembered, nor a letter, nor the text.
 */
public final class RefusalTest {
    private static final int UNKNOWN = ForkedStore.UNKNOWN;
    private static final int BAD_VALUE = ForkedStore.BAD_VALUE;
    private static final int NOT_POSSIBLE = ForkedStore.NOT_POSSIBLE;
    private static final int FULL = ForkedStore.FULL;
    private static final int NONE = ForkedStore.NONE;

    /** No users of a store for three, no views of one with two. */
    private static final int[] NO_USERS = {-1, 3, 4, 5, Integer.MAX_VALUE, Integer.MIN_VALUE};
    private static final int[] NO_VIEWS = {-1, 2, 5, 6, Integer.MAX_VALUE, Integer.MIN_VALUE};

    private RefusalTest() {
    }

    public static void main(String[] args) {
        scenesAreWhatTheySay();
        promise2Reset();
        promise3Write();
        promise3SeveralErrors();
        promise4Read();
        promise4SeveralErrors();
        promise5LastRead();
        promise6Check();
        promise7Fork();
        promise7SeveralErrors();
        promise8Attach();
        promise9RollBack();
        promise9SeveralErrors();
        promise10Mix();
        promise10SeveralErrors();
        promise11SendLetter();
        promise11SeveralErrors();
        promise12ReadLetter();
        promise13LoseLetter();
        promise14PassProof();
        promise14SeveralErrors();
        promise15Count();
        promise16User();
        promise16SeveralErrors();
        promise17Vector();
        promise17SeveralErrors();
        promise18Entry();
        promise19Content();
        promise20View();
        promise20SeveralErrors();
        promise21Compare();
        promise23TellingLetter();
        promise25Type();
        promise27Run();
        refusedCommandsOfAText();
        Due.finish();
    }

    private static void scenesAreWhatTheySay() {
        ForkedStore x = Scenes.rich();
        Due.due("alarm of 0", x.user(0, 1), 1);
        Due.due("proof of 0", x.user(0, 2), 0);
        Due.due("letters to 0", x.user(0, 3), 1);
        Due.due("alarm of 1", x.user(1, 1), 4);
        Due.due("proof of 1", x.user(1, 2), 1);
        Due.due("letters to 1", x.user(1, 3), 0);
        Due.due("check(2)", x.check(2), 0);
        Due.due("letters to 2", x.user(2, 3), 2);
        Due.due("view(0, 1)", x.view(0, 1), 3);
        Due.due("view(1, 1)", x.view(1, 1), 4);
        Due.due("run()", x.run(), 3);
        Due.due("fullViews", Scenes.fullViews().count(1), 6);
        Due.due("fullViews", Scenes.fullViews().view(5, 0), 1);
        Due.due("fullBox", Scenes.fullBox().user(2, 3), 4);
        Due.due("fullText", Scenes.fullText().clearText(), 60);
        Due.due("mixed", Scenes.mixed().view(0, 1), 0);
        Due.due("mixed", Scenes.mixed().view(0, 2), 0);
        for (int alarm = 1; alarm <= 5; alarm++) {
            Due.due("alarmed", Scenes.alarmed(alarm).user(1, 1), alarm);
        }
        for (int users = 2; users <= 5; users++) {
            Due.due("apart", Scenes.apart(users).forkedPairs(), users * (users - 1) / 2);
        }
    }

    private static void promise2Reset() {
        for (int users : new int[] {1, 6, 0, -1, 7, Integer.MAX_VALUE, Integer.MIN_VALUE}) {
            Due.refused("reset(" + users + ")", Scenes::rich, x -> x.reset(users), BAD_VALUE);
        }
    }

    private static void promise3Write() {
        for (int no : NO_USERS) {
            Due.refused("write(" + no + ", 1)", Scenes::rich, x -> x.write(no, 1), UNKNOWN);
        }
        for (int value : new int[] {-1001, 1001, Integer.MAX_VALUE, Integer.MIN_VALUE}) {
            Due.refused("write(2, " + value + ")", Scenes::rich, x -> x.write(2, value), BAD_VALUE);
        }
        for (int alarm = 1; alarm <= 5; alarm++) {
            int raised = alarm;
            Due.refused("write(1, 1) with alarm " + alarm, () -> Scenes.alarmed(raised), x -> x.write(1, 1), NOT_POSSIBLE);
        }
    }

    private static void promise3SeveralErrors() {
        Due.refused("write(3, 1001)", Scenes::rich, x -> x.write(3, 1001), UNKNOWN);
        Due.refused("write(-1, -1001)", Scenes::rich, x -> x.write(-1, -1001), UNKNOWN);
        Due.refused("write(0, 1001) with an alarm", Scenes::rich, x -> x.write(0, 1001), BAD_VALUE);
        Due.refused("write(0, -1001) with an alarm", Scenes::rich, x -> x.write(0, -1001), BAD_VALUE);
        Due.refused("write(0, 1000) with an alarm", Scenes::rich, x -> x.write(0, 1000), NOT_POSSIBLE);
    }

    private static void promise4Read() {
        for (int no : NO_USERS) {
            Due.refused("read(" + no + ", 1)", Scenes::rich, x -> x.read(no, 1), UNKNOWN);
            Due.refused("read(2, " + no + ")", Scenes::rich, x -> x.read(2, no), UNKNOWN);
            Due.refused("read(" + no + ", " + no + ")", Scenes::rich, x -> x.read(no, no), UNKNOWN);
        }
        for (int alarm = 1; alarm <= 5; alarm++) {
            int raised = alarm;
            Due.refused("read(1, 0) with alarm " + alarm, () -> Scenes.alarmed(raised), x -> x.read(1, 0), NOT_POSSIBLE);
        }
    }

    private static void promise4SeveralErrors() {
        Due.refused("read(0, 3) with an alarm", Scenes::rich, x -> x.read(0, 3), UNKNOWN);
        Due.refused("read(0, -1) with an alarm", Scenes::rich, x -> x.read(0, -1), UNKNOWN);
        Due.refused("read(0, 2) with an alarm", Scenes::rich, x -> x.read(0, 2), NOT_POSSIBLE);
    }

    private static void promise5LastRead() {
        for (int no : NO_USERS) {
            Due.refused("lastRead(" + no + ")", Scenes::rich, x -> x.lastRead(no), UNKNOWN);
        }
        Due.refused("lastRead(2)", Scenes::rich, x -> x.lastRead(2), NONE);
    }

    private static void promise6Check() {
        for (int no : NO_USERS) {
            Due.refused("check(" + no + ")", Scenes::rich, x -> x.check(no), UNKNOWN);
        }
        for (int alarm = 1; alarm <= 5; alarm++) {
            int raised = alarm;
            Due.refused("check(1) with alarm " + alarm, () -> Scenes.alarmed(raised), x -> x.check(1), NOT_POSSIBLE);
        }
    }

    private static void promise7Fork() {
        for (int no : NO_VIEWS) {
            Due.refused("fork(" + no + ", 1)", Scenes::rich, x -> x.fork(no, 1), UNKNOWN);
        }
        // Users 0 and 2 are attached to view 0, user 1 to view 1.
        int[] wrong = {0, 2, 3, 6, 7, 8, 9, 13, 32, 1 << 30, Integer.MIN_VALUE, Integer.MIN_VALUE + 1, -1, -2, -8};
        for (int set : wrong) {
            Due.refused("fork(0, " + set + ")", Scenes::rich, x -> x.fork(0, set), BAD_VALUE);
        }
        Due.refused("fork(1, 1)", Scenes::rich, x -> x.fork(1, 1), BAD_VALUE);
        Due.refused("fork(5, 1)", Scenes::fullViews, x -> x.fork(5, 1), FULL);
        Due.refused("fork(0, 4)", Scenes::fullViews, x -> x.fork(0, 4), FULL);
        Due.refused("fork(1, 2)", Scenes::fullViews, x -> x.fork(1, 2), FULL);
    }

    private static void promise7SeveralErrors() {
        Due.refused("fork(2, 0)", Scenes::rich, x -> x.fork(2, 0), UNKNOWN);
        Due.refused("fork(-1, 8)", Scenes::rich, x -> x.fork(-1, 8), UNKNOWN);
        Due.refused("fork(6, 1) of six views", Scenes::fullViews, x -> x.fork(6, 1), UNKNOWN);
        Due.refused("fork(-1, 1) of six views", Scenes::fullViews, x -> x.fork(-1, 1), UNKNOWN);
        Due.refused("fork(6, 0) of six views", Scenes::fullViews, x -> x.fork(6, 0), UNKNOWN);
        Due.refused("fork(5, 0) of six views", Scenes::fullViews, x -> x.fork(5, 0), BAD_VALUE);
        Due.refused("fork(5, 2) of six views", Scenes::fullViews, x -> x.fork(5, 2), BAD_VALUE);
        Due.refused("fork(5, 9) of six views", Scenes::fullViews, x -> x.fork(5, 9), BAD_VALUE);
    }

    private static void promise8Attach() {
        for (int no : NO_USERS) {
            Due.refused("attach(" + no + ", 1)", Scenes::rich, x -> x.attach(no, 1), UNKNOWN);
        }
        for (int no : NO_VIEWS) {
            Due.refused("attach(2, " + no + ")", Scenes::rich, x -> x.attach(2, no), UNKNOWN);
        }
        Due.refused("attach(3, 2)", Scenes::rich, x -> x.attach(3, 2), UNKNOWN);
        Due.refused("attach(2, 6) of six views", Scenes::fullViews, x -> x.attach(2, 6), UNKNOWN);
    }

    private static void promise9RollBack() {
        for (int no : NO_VIEWS) {
            Due.refused("rollBack(" + no + ", 1)", Scenes::rich, x -> x.rollBack(no, 1), UNKNOWN);
        }
        for (int operations : new int[] {0, 6, -1, 7, Integer.MAX_VALUE, Integer.MIN_VALUE}) {
            Due.refused("rollBack(0, " + operations + ")", Scenes::rich, x -> x.rollBack(0, operations), BAD_VALUE);
        }
        Due.refused("rollBack(0, 4) of 3", Scenes::rich, x -> x.rollBack(0, 4), NONE);
        Due.refused("rollBack(0, 5) of 3", Scenes::rich, x -> x.rollBack(0, 5), NONE);
        Due.refused("rollBack(1, 5) of 4", Scenes::rich, x -> x.rollBack(1, 5), NONE);
        Due.refused("rollBack(0, 1) of none", ForkedStore::new, x -> x.rollBack(0, 1), NONE);
        Due.refused("rollBack(0, 1) of a mixed view", Scenes::mixed, x -> x.rollBack(0, 1), NONE);
    }

    private static void promise9SeveralErrors() {
        Due.refused("rollBack(2, 0)", Scenes::rich, x -> x.rollBack(2, 0), UNKNOWN);
        Due.refused("rollBack(-1, 6)", Scenes::rich, x -> x.rollBack(-1, 6), UNKNOWN);
        Due.refused("rollBack(2, 5)", Scenes::rich, x -> x.rollBack(2, 5), UNKNOWN);
        Due.refused("rollBack(0, 6) of none", ForkedStore::new, x -> x.rollBack(0, 6), BAD_VALUE);
        Due.refused("rollBack(0, 0) of none", ForkedStore::new, x -> x.rollBack(0, 0), BAD_VALUE);
        Due.refused("rollBack(0, 5) of none", ForkedStore::new, x -> x.rollBack(0, 5), NONE);
    }

    private static void promise10Mix() {
        for (int no : NO_VIEWS) {
            Due.refused("mix(" + no + ", 0)", Scenes::rich, x -> x.mix(no, 0), UNKNOWN);
            Due.refused("mix(0, " + no + ")", Scenes::rich, x -> x.mix(0, no), UNKNOWN);
        }
        Due.refused("mix(0, 0)", Scenes::rich, x -> x.mix(0, 0), BAD_VALUE);
        Due.refused("mix(1, 1)", Scenes::rich, x -> x.mix(1, 1), BAD_VALUE);
        Due.refused("mix(5, 5)", Scenes::fullViews, x -> x.mix(5, 5), BAD_VALUE);
    }

    private static void promise10SeveralErrors() {
        for (int no : NO_VIEWS) {
            Due.refused("mix(" + no + ", " + no + ")", Scenes::rich, x -> x.mix(no, no), UNKNOWN);
        }
        Due.refused("mix(6, 6) of six views", Scenes::fullViews, x -> x.mix(6, 6), UNKNOWN);
    }

    private static void promise11SendLetter() {
        for (int no : NO_USERS) {
            Due.refused("sendLetter(" + no + ", 1)", Scenes::rich, x -> x.sendLetter(no, 1), UNKNOWN);
            Due.refused("sendLetter(1, " + no + ")", Scenes::rich, x -> x.sendLetter(1, no), UNKNOWN);
        }
        for (int i = 0; i < 3; i++) {
            int same = i;
            Due.refused("sendLetter to oneself", Scenes::rich, x -> x.sendLetter(same, same), BAD_VALUE);
        }
        Due.refused("sendLetter(0, 2) to a full box", Scenes::fullBox, x -> x.sendLetter(0, 2), FULL);
        Due.refused("sendLetter(1, 2) to a full box", Scenes::fullBox, x -> x.sendLetter(1, 2), FULL);
    }

    private static void promise11SeveralErrors() {
        Due.refused("sendLetter(3, 3)", Scenes::rich, x -> x.sendLetter(3, 3), UNKNOWN);
        Due.refused("sendLetter(-1, -1)", Scenes::rich, x -> x.sendLetter(-1, -1), UNKNOWN);
        Due.refused("sendLetter(3, 2) to a full box", Scenes::fullBox, x -> x.sendLetter(3, 2), UNKNOWN);
        Due.refused("sendLetter(-1, 2) to a full box", Scenes::fullBox, x -> x.sendLetter(-1, 2), UNKNOWN);
        Due.refused("sendLetter(2, 2) to a full box", Scenes::fullBox, x -> x.sendLetter(2, 2), BAD_VALUE);
    }

    private static void promise12ReadLetter() {
        for (int no : NO_USERS) {
            Due.refused("readLetter(" + no + ")", Scenes::rich, x -> x.readLetter(no), UNKNOWN);
        }
        Due.refused("readLetter(1) of none", Scenes::rich, x -> x.readLetter(1), NONE);
        Due.refused("readLetter(0) of a new store", ForkedStore::new, x -> x.readLetter(0), NONE);
    }

    private static void promise13LoseLetter() {
        for (int no : NO_USERS) {
            Due.refused("loseLetter(" + no + ")", Scenes::rich, x -> x.loseLetter(no), UNKNOWN);
        }
        Due.refused("loseLetter(1) of none", Scenes::rich, x -> x.loseLetter(1), NONE);
        Due.refused("loseLetter(0) of a new store", ForkedStore::new, x -> x.loseLetter(0), NONE);
    }

    private static void promise14PassProof() {
        for (int no : NO_USERS) {
            Due.refused("passProof(" + no + ", 2)", Scenes::rich, x -> x.passProof(no, 2), UNKNOWN);
            Due.refused("passProof(1, " + no + ")", Scenes::rich, x -> x.passProof(1, no), UNKNOWN);
        }
        Due.refused("passProof(1, 1)", Scenes::rich, x -> x.passProof(1, 1), BAD_VALUE);
        Due.refused("passProof(0, 2) without a proof", Scenes::rich, x -> x.passProof(0, 2), NOT_POSSIBLE);
        Due.refused("passProof(0, 1) without a proof", Scenes::rich, x -> x.passProof(0, 1), NOT_POSSIBLE);
        Due.refused("passProof(2, 0) without an alarm", Scenes::rich, x -> x.passProof(2, 0), NOT_POSSIBLE);
    }

    private static void promise14SeveralErrors() {
        Due.refused("passProof(3, 3)", Scenes::rich, x -> x.passProof(3, 3), UNKNOWN);
        Due.refused("passProof(-1, -1)", Scenes::rich, x -> x.passProof(-1, -1), UNKNOWN);
        Due.refused("passProof(2, 3) without a proof", Scenes::rich, x -> x.passProof(2, 3), UNKNOWN);
        Due.refused("passProof(0, -1) without a proof", Scenes::rich, x -> x.passProof(0, -1), UNKNOWN);
        Due.refused("passProof(2, 2) without a proof", Scenes::rich, x -> x.passProof(2, 2), BAD_VALUE);
        Due.refused("passProof(0, 0) without a proof", Scenes::rich, x -> x.passProof(0, 0), BAD_VALUE);
    }

    private static void promise15Count() {
        for (int what : new int[] {-1, 6, 7, Integer.MAX_VALUE, Integer.MIN_VALUE}) {
            Due.refused("count(" + what + ")", Scenes::rich, x -> x.count(what), BAD_VALUE);
        }
    }

    private static void promise16User() {
        for (int no : NO_USERS) {
            Due.refused("user(" + no + ", 0)", Scenes::rich, x -> x.user(no, 0), UNKNOWN);
        }
        for (int what : new int[] {-1, 8, 9, Integer.MAX_VALUE, Integer.MIN_VALUE}) {
            Due.refused("user(1, " + what + ")", Scenes::rich, x -> x.user(1, what), BAD_VALUE);
        }
        Due.refused("user(0, 7) without a proof", Scenes::rich, x -> x.user(0, 7), NONE);
        Due.refused("user(2, 7) without an alarm", Scenes::rich, x -> x.user(2, 7), NONE);
    }

    private static void promise16SeveralErrors() {
        Due.refused("user(3, 8)", Scenes::rich, x -> x.user(3, 8), UNKNOWN);
        Due.refused("user(-1, -1)", Scenes::rich, x -> x.user(-1, -1), UNKNOWN);
        Due.refused("user(3, 7)", Scenes::rich, x -> x.user(3, 7), UNKNOWN);
    }

    private static void promise17Vector() {
        for (int no : NO_USERS) {
            for (int kind = 0; kind <= 3; kind++) {
                int told = kind;
                Due.refused("vector of " + no, Scenes::rich, x -> x.vector(no, told, 1), UNKNOWN);
                Due.refused("vector at " + no, Scenes::rich, x -> x.vector(1, told, no), UNKNOWN);
            }
        }
        for (int kind : new int[] {-1, 4, 5, Integer.MAX_VALUE, Integer.MIN_VALUE}) {
            Due.refused("vector(1, " + kind + ", 0)", Scenes::rich, x -> x.vector(1, kind, 0), BAD_VALUE);
            Due.refused("vector(2, " + kind + ", 2)", Scenes::rich, x -> x.vector(2, kind, 2), BAD_VALUE);
        }
        for (int place = 0; place < 3; place++) {
            int at = place;
            Due.refused("vector(0, 2, " + at + ")", Scenes::rich, x -> x.vector(0, 2, at), NONE);
            Due.refused("vector(2, 3, " + at + ")", Scenes::rich, x -> x.vector(2, 3, at), NONE);
        }
    }

    private static void promise17SeveralErrors() {
        Due.refused("vector(3, 4, 0)", Scenes::rich, x -> x.vector(3, 4, 0), UNKNOWN);
        Due.refused("vector(0, 4, 3)", Scenes::rich, x -> x.vector(0, 4, 3), UNKNOWN);
        Due.refused("vector(0, -1, -1)", Scenes::rich, x -> x.vector(0, -1, -1), UNKNOWN);
        Due.refused("vector(-1, -1, -1)", Scenes::rich, x -> x.vector(-1, -1, -1), UNKNOWN);
        Due.refused("vector(0, 2, 3) without a proof", Scenes::rich, x -> x.vector(0, 2, 3), UNKNOWN);
        Due.refused("vector(2, 3, -1) without a proof", Scenes::rich, x -> x.vector(2, 3, -1), UNKNOWN);
        Due.refused("vector(0, 4, 0) without a proof", Scenes::rich, x -> x.vector(0, 4, 0), BAD_VALUE);
    }

    private static void promise18Entry() {
        for (int no : NO_VIEWS) {
            Due.refused("entry(" + no + ", 0, 0)", Scenes::rich, x -> x.entry(no, 0, 0), UNKNOWN);
        }
        for (int no : NO_USERS) {
            Due.refused("entry(0, " + no + ", 0)", Scenes::rich, x -> x.entry(0, no, 0), UNKNOWN);
            Due.refused("entry(0, 0, " + no + ")", Scenes::rich, x -> x.entry(0, 0, no), UNKNOWN);
        }
        Due.refused("entry(2, 3, 3)", Scenes::rich, x -> x.entry(2, 3, 3), UNKNOWN);
        Due.refused("entry(6, 0, 0) of six views", Scenes::fullViews, x -> x.entry(6, 0, 0), UNKNOWN);
    }

    private static void promise19Content() {
        for (int no : NO_VIEWS) {
            Due.refused("content(" + no + ", 0)", Scenes::rich, x -> x.content(no, 0), UNKNOWN);
        }
        for (int no : NO_USERS) {
            Due.refused("content(0, " + no + ")", Scenes::rich, x -> x.content(0, no), UNKNOWN);
        }
        Due.refused("content(2, 3)", Scenes::rich, x -> x.content(2, 3), UNKNOWN);
        Due.refused("content(6, 0) of six views", Scenes::fullViews, x -> x.content(6, 0), UNKNOWN);
    }

    private static void promise20View() {
        for (int no : NO_VIEWS) {
            Due.refused("view(" + no + ", 0)", Scenes::rich, x -> x.view(no, 0), UNKNOWN);
        }
        for (int what : new int[] {-1, 4, 5, Integer.MAX_VALUE, Integer.MIN_VALUE}) {
            Due.refused("view(0, " + what + ")", Scenes::rich, x -> x.view(0, what), BAD_VALUE);
        }
        Due.refused("view(0, 3) of forked entries", Scenes::mixed, x -> x.view(0, 3), NONE);
        Due.refused("view(6, 0) of six views", Scenes::fullViews, x -> x.view(6, 0), UNKNOWN);
    }

    private static void promise20SeveralErrors() {
        Due.refused("view(2, 4)", Scenes::rich, x -> x.view(2, 4), UNKNOWN);
        Due.refused("view(-1, -1)", Scenes::rich, x -> x.view(-1, -1), UNKNOWN);
        Due.refused("view(3, 3)", Scenes::mixed, x -> x.view(3, 3), UNKNOWN);
        Due.refused("view(0, 4) of forked entries", Scenes::mixed, x -> x.view(0, 4), BAD_VALUE);
    }

    private static void promise21Compare() {
        for (int no : NO_USERS) {
            Due.refused("compare(" + no + ", 0, true)", Scenes::rich, x -> x.compare(no, 0, true), UNKNOWN);
            Due.refused("compare(0, " + no + ", true)", Scenes::rich, x -> x.compare(0, no, true), UNKNOWN);
            Due.refused("compare(" + no + ", 0, false)", Scenes::rich, x -> x.compare(no, 0, false), UNKNOWN);
            Due.refused("compare(0, " + no + ", false)", Scenes::rich, x -> x.compare(0, no, false), UNKNOWN);
            Due.refused("compare of no users", Scenes::rich, x -> x.compare(no, no, true), UNKNOWN);
        }
    }

    private static void promise23TellingLetter() {
        Due.refused("tellingLetter() of a new store", ForkedStore::new, ForkedStore::tellingLetter, NONE);
    }

    private static void promise25Type() {
        for (char character : new char[] {'w', '0', '?', '\u0000', '\uffff'}) {
            Due.refused("type(" + (int) character + ")", Scenes::fullText, x -> x.type(character), FULL);
        }
    }

    /** A text with a fault is refused as a whole, though its first commands could be carried out. */
    private static void promise27Run() {
        Due.refused("run() of a text cut short", Scenes::brokenText, ForkedStore::run, -111);
        Due.refused("run() of a text with a fault", Scenes::faultyText, ForkedStore::run, -104);
    }

    /** A text whose first command is refused has no effect, nor has what stands behind that command. */
    private static void refusedCommandsOfAText() {
        String[] refused = {
            "w31", "w01", "r30", "r23", "r02", "s30", "s23", "s22", "g30", "g31", "g11", "m30", "m22",
        };
        for (String command : refused) {
            ForkedStore x = Scenes.rich();
            x.clearText();
            Due.typeAll(x, command + "w21");
            Due.due("run() of " + command, x.run(), 0);
            Due.due("the store behind " + command, Due.picture(x), Due.picture(Scenes.rich()));
        }
        ForkedStore x = Scenes.fullBox();
        x.clearText();
        Due.typeAll(x, "s02w21");
        Due.due("run() of s02", x.run(), 0);
        Due.due("the store behind s02", Due.picture(x), Due.picture(Scenes.fullBox()));
    }
}
