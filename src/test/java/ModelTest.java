import java.util.ArrayDeque;
import java.util.ArrayList;
import java.util.Arrays;
import java.util.Deque;
import java.util.List;

/**
 * Long runs of calls on the class and on a second, plainer store that is written from the document alone
 * (vectors are never changed, views keep whole copies): both must answer the same.
 */
public final class ModelTest {
    private static final int RUNS = 6000;
    /** What an object answers to later calls is free. */
    private static final int MOST_CALLS = 512;
    private static final int MOST_CALLS_AT_ONCE = 9;

    /** How often what is rare has happened, so that the runs are known to reach it. */
    private static final int[] REACHED = new int[12];
    private static final String[] RARE = {
        "alarm 1", "alarm 2", "alarm 3 without proof", "alarm 3 with proof", "alarm 4", "alarm 5",
        "a proof for an earlier alarm", "a proof of depth 2", "an alarm of a first pair behind another one",
        "6 views", "a script of 6 commands", "a full box",
    };

    private long seed;
    /** Some runs start anew often, so that few alarms are raised; others let alarms and views pile up. */
    private final int resetEvery;
    private ForkedStore store;
    private Model model;
    private int made;

    private ModelTest(int number) {
        seed = number * 7919L + 17;
        resetEvery = 1 + 3 * (number % 5);
    }

    public static void main(String[] args) {
        for (int i = 0; i < RUNS && Due.wrongSoFar() == 0; i++) {
            new ModelTest(i).run(i);
        }
        for (int i = 0; i < RARE.length; i++) {
            System.out.println(REACHED[i] + " times " + RARE[i]);
            Due.due("runs reach " + RARE[i], REACHED[i] > 20 ? 1 : 0, 1);
        }
        Due.finish();
    }

    private void run(int number) {
        store = new ForkedStore();
        model = new Model();
        made = 0;
        while (made + MOST_CALLS_AT_ONCE + callsOfPicture() <= MOST_CALLS && Due.wrongSoFar() == 0) {
            call("run " + number + " call " + made + " ");
        }
        // The last call may have made the picture larger than there is room for.
        if (made + callsOfPicture() <= MOST_CALLS) {
            Due.due("picture behind run " + number, Due.picture(store), model.picture());
        }
    }

    private int callsOfPicture() {
        int u = model.u;
        int ofUsers = 6 + 1 + u * (2 + 8 + 4 * (1 + u) + 2 * u);
        return ofUsers + model.views.size() * (1 + 4 + 1 + u * (1 + u + 1)) + 1 + 3;
    }

    private int below(int bound) {
        seed = seed * 6364136223846793005L + 1442695040888963407L;
        return (int) ((seed >>> 33) % bound);
    }

    private int someUser() {
        return below(60) == 0 ? oddNumber() : below(model.u);
    }

    private int someView() {
        return below(60) == 0 ? oddNumber() : below(model.views.size());
    }

    private int oddNumber() {
        int[] odd = {-1, model.u, model.views.size(), 5, 6, 7, Integer.MAX_VALUE, Integer.MIN_VALUE};
        return odd[below(odd.length)];
    }

    private void call(String at) {
        int kind = below(100);
        int a = someUser();
        int b = someUser();
        int v = someView();
        int w = someView();
        made++;
        if (kind < 14) {
            int value = below(40) == 0 ? (below(2) * 2 - 1) * (1000 + below(2)) : below(2001) - 1000;
            Due.due(at + "write(" + a + ", " + value + ")", store.write(a, value), model.write(a, value));
        } else if (kind < 28) {
            Due.due(at + "read(" + a + ", " + b + ")", store.read(a, b), model.read(a, b));
        } else if (kind < 32) {
            int set = below(3) == 0 ? below(40) - 2 : 1 << below(model.u);
            Due.due(at + "fork(" + v + ", " + set + ")", store.fork(v, set), model.fork(v, set));
        } else if (kind < 35) {
            Due.due(at + "attach(" + a + ", " + v + ")", store.attach(a, v), model.attach(a, v));
        } else if (kind < 38) {
            int operations = below(10) == 0 ? below(9) - 1 : 1 + below(3);
            Due.due(at + "rollBack(" + v + ", " + operations + ")", store.rollBack(v, operations), model.rollBack(v, operations));
        } else if (kind < 42) {
            Due.due(at + "mix(" + v + ", " + w + ")", store.mix(v, w), model.mix(v, w));
        } else if (kind < 53) {
            Due.due(at + "sendLetter(" + a + ", " + b + ")", store.sendLetter(a, b), model.sendLetter(a, b));
        } else if (kind < 62) {
            Due.due(at + "readLetter(" + a + ")", store.readLetter(a), model.readLetter(a));
        } else if (kind < 64) {
            Due.due(at + "loseLetter(" + a + ")", store.loseLetter(a), model.loseLetter(a));
        } else if (kind < 69) {
            Due.due(at + "passProof(" + a + ", " + b + ")", store.passProof(a, b), model.passProof(a, b));
        } else if (kind < 90) {
            callScript(at);
        } else if (kind < 97) {
            tell(at, a, b, v);
        } else if (kind < 99 && below(resetEvery) == 0) {
            int users = below(30) == 0 ? oddNumber() : 2 + below(4);
            Due.due(at + "reset(" + users + ")", store.reset(users), model.reset(users));
        } else {
            made += 2;
            Due.due(at + "forkedPairs()", store.forkedPairs(), model.forkedPairs());
            Due.due(at + "tellingLetter()", store.tellingLetter(), model.tellingLetter());
            Due.due(at + "unaware()", store.unaware(), model.unaware());
        }
    }

    private void callScript(String at) {
        if (below(30) == 0) {
            Due.due(at + "run()", store.run(), model.run());
        } else if (below(150) == 0) {
            Due.due(at + "clearText()", store.clearText(), model.clearText());
        } else {
            char next = model.text.length() % 3 == 0 ? "wrsgm".charAt(below(5)) : (char) ('0' + below(3));
            if (below(400) == 0) {
                next = "wz/:9 \u0000\u0167".charAt(below(8));
            }
            Due.due(at + "type(" + (int) next + ")", store.type(next), model.type(next));
        }
    }

    private void tell(String at, int a, int b, int v) {
        int what = below(11) - 1;
        int c = someUser();
        made += 8;
        Due.due(at + "count(" + what + ")", store.count(what), model.count(what));
        Due.due(at + "user(" + a + ", " + what + ")", store.user(a, what), model.user(a, what));
        Due.due(at + "vector(" + a + ", " + what + ", " + c + ")", store.vector(a, what, c), model.vector(a, what, c));
        Due.due(at + "entry(" + v + ", " + b + ", " + c + ")", store.entry(v, b, c), model.entry(v, b, c));
        Due.due(at + "content(" + v + ", " + b + ")", store.content(v, b), model.content(v, b));
        Due.due(at + "view(" + v + ", " + what + ")", store.view(v, what), model.view(v, what));
        Due.due(at + "compare(" + a + ", " + b + ")", store.compare(a, b, what > 4), model.compare(a, b, what > 4));
        Due.due(at + "check(" + a + ")", store.check(a), model.check(a));
        Due.due(at + "lastRead(" + a + ")", store.lastRead(a), model.lastRead(a));
    }

    private static boolean atMost(int[] a, int[] b) {
        boolean all = true;
        for (int i = 0; i < a.length; i++) {
            all = all && a[i] <= b[i];
        }
        return all;
    }

    private static boolean forked(int[] a, int[] b) {
        return !atMost(a, b) && !atMost(b, a);
    }

    private static final class ModelView {
        int[][] vectors;
        int[] contents;
        final Deque<ModelView> before = new ArrayDeque<>();

        ModelView(int[][] vectors, int[] contents) {
            this.vectors = vectors.clone();
            this.contents = contents.clone();
        }
    }

    private static final class ModelUser {
        int[] signed;
        int[] known;
        int[] first;
        int[] second;
        int depth;
        int alarm;
        ModelView view;
        Integer heard;
        int operations;
        int begun;
        int sent;
        final Deque<int[]> box = new ArrayDeque<>();
    }

    private static final class Model {
        int u;
        List<ModelView> views;
        List<ModelUser> all;
        String text = "";

        Model() {
            start(3);
        }

        void start(int users) {
            u = users;
            views = new ArrayList<>();
            views.add(new ModelView(new int[u][u], new int[u]));
            all = new ArrayList<>();
            for (int i = 0; i < u; i++) {
                ModelUser one = new ModelUser();
                one.signed = new int[u];
                one.known = new int[u];
                one.view = views.get(0);
                all.add(one);
            }
        }

        boolean noUser(int i) {
            return i < 0 || i >= u;
        }

        boolean noView(int v) {
            return v < 0 || v >= views.size();
        }

        int reset(int users) {
            if (users < 2 || users > 5) {
                return ForkedStore.BAD_VALUE;
            }
            int previous = u;
            start(users);
            return previous;
        }

        int alarmOf(int i) {
            ModelUser one = all.get(i);
            if (!Arrays.equals(one.view.vectors[i], one.signed)) {
                return 1;
            }
            if (firstPair(one.view) != null) {
                return 2;
            }
            return atMost(one.known, top(one.view)) ? 0 : 3;
        }

        int[] firstPair(ModelView view) {
            for (int i = 0; i < u; i++) {
                for (int j = i + 1; j < u; j++) {
                    if (forked(view.vectors[i], view.vectors[j])) {
                        return new int[] {i, j};
                    }
                }
            }
            return null;
        }

        int[] top(ModelView view) {
            for (int[] candidate : view.vectors) {
                boolean isTop = true;
                for (int[] other : view.vectors) {
                    isTop = isTop && atMost(other, candidate);
                }
                if (isTop) {
                    return candidate;
                }
            }
            throw new IllegalStateException("forked entries have no greatest vector");
        }

        int operation(int i, Integer value, int owner) {
            ModelUser one = all.get(i);
            one.begun++;
            int alarm = alarmOf(i);
            if (alarm != 0) {
                one.alarm = alarm;
                REACHED[alarm == 3 ? 2 : alarm - 1]++;
                if (alarm == 2) {
                    int[] pair = firstPair(one.view);
                    REACHED[8] += pair[0] > 0 ? 1 : 0;
                    one.first = one.view.vectors[pair[0]];
                    one.second = one.view.vectors[pair[1]];
                } else if (alarm == 3 && forked(one.known, top(one.view))) {
                    REACHED[2]--;
                    REACHED[3]++;
                    one.first = one.known;
                    one.second = top(one.view);
                }
                return alarm;
            }
            one.view.before.addFirst(new ModelView(one.view.vectors, one.view.contents));
            if (one.view.before.size() > 5) {
                one.view.before.removeLast();
            }
            int[] signed = top(one.view).clone();
            signed[i]++;
            one.signed = signed;
            one.known = signed;
            one.view.vectors[i] = signed;
            one.operations++;
            one.sent += u;
            if (value == null) {
                one.heard = one.view.contents[owner];
            } else {
                one.view.contents[i] = value;
            }
            return 0;
        }

        int write(int i, int value) {
            if (noUser(i)) {
                return ForkedStore.UNKNOWN;
            }
            if (Math.abs((long) value) > 1000) {
                return ForkedStore.BAD_VALUE;
            }
            return all.get(i).alarm != 0 ? ForkedStore.NOT_POSSIBLE : operation(i, value, i);
        }

        int read(int i, int owner) {
            if (noUser(i) || noUser(owner)) {
                return ForkedStore.UNKNOWN;
            }
            return all.get(i).alarm != 0 ? ForkedStore.NOT_POSSIBLE : operation(i, null, owner);
        }

        int lastRead(int i) {
            if (noUser(i)) {
                return ForkedStore.UNKNOWN;
            }
            return all.get(i).heard == null ? ForkedStore.NONE : all.get(i).heard;
        }

        int check(int i) {
            if (noUser(i)) {
                return ForkedStore.UNKNOWN;
            }
            return all.get(i).alarm != 0 ? ForkedStore.NOT_POSSIBLE : alarmOf(i);
        }

        int fork(int v, int set) {
            if (noView(v)) {
                return ForkedStore.UNKNOWN;
            }
            int attached = view(v, 0);
            if (set == 0 || (set | attached) != attached) {
                return ForkedStore.BAD_VALUE;
            }
            if (views.size() == 6) {
                return ForkedStore.FULL;
            }
            ModelView old = views.get(v);
            ModelView made = new ModelView(old.vectors, old.contents);
            for (ModelView before : old.before) {
                made.before.addLast(new ModelView(before.vectors, before.contents));
            }
            views.add(made);
            REACHED[9] += views.size() == 6 ? 1 : 0;
            for (int i = 0; i < u; i++) {
                if ((set & (1 << i)) != 0) {
                    all.get(i).view = made;
                }
            }
            return views.size() - 1;
        }

        int attach(int i, int v) {
            if (noUser(i) || noView(v)) {
                return ForkedStore.UNKNOWN;
            }
            int previous = views.indexOf(all.get(i).view);
            all.get(i).view = views.get(v);
            return previous;
        }

        int rollBack(int v, int operations) {
            if (noView(v)) {
                return ForkedStore.UNKNOWN;
            }
            if (operations < 1 || operations > 5) {
                return ForkedStore.BAD_VALUE;
            }
            ModelView view = views.get(v);
            if (view.before.size() < operations) {
                return ForkedStore.NONE;
            }
            for (int i = 0; i < operations; i++) {
                ModelView before = view.before.removeFirst();
                view.vectors = before.vectors.clone();
                view.contents = before.contents.clone();
            }
            return view.before.size();
        }

        int mix(int v, int w) {
            if (noView(v) || noView(w)) {
                return ForkedStore.UNKNOWN;
            }
            if (v == w) {
                return ForkedStore.BAD_VALUE;
            }
            ModelView view = views.get(v);
            ModelView other = views.get(w);
            int replaced = 0;
            for (int i = 0; i < u; i++) {
                if (other.vectors[i][i] > view.vectors[i][i]) {
                    view.vectors[i] = other.vectors[i];
                    view.contents[i] = other.contents[i];
                    replaced++;
                }
                if (all.get(i).view == other) {
                    all.get(i).view = view;
                }
            }
            view.before.clear();
            return replaced;
        }

        int sendLetter(int i, int to) {
            if (noUser(i) || noUser(to)) {
                return ForkedStore.UNKNOWN;
            }
            if (i == to) {
                return ForkedStore.BAD_VALUE;
            }
            if (all.get(to).box.size() == 4) {
                REACHED[11]++;
                return ForkedStore.FULL;
            }
            all.get(to).box.addLast(all.get(i).known);
            all.get(i).sent += u;
            return all.get(to).box.size();
        }

        int readLetter(int i) {
            if (noUser(i)) {
                return ForkedStore.UNKNOWN;
            }
            ModelUser one = all.get(i);
            if (one.box.isEmpty()) {
                return ForkedStore.NONE;
            }
            int[] letter = one.box.removeFirst();
            if (atMost(letter, one.known)) {
                return 0;
            }
            if (atMost(one.known, letter)) {
                one.known = letter;
                return 1;
            }
            if (one.first == null) {
                one.first = one.known;
                one.second = letter;
                one.depth = 0;
                REACHED[6] += one.alarm != 0 ? 1 : 0;
            }
            if (one.alarm == 0) {
                one.alarm = 4;
                REACHED[4]++;
            }
            return 2;
        }

        int loseLetter(int i) {
            if (noUser(i)) {
                return ForkedStore.UNKNOWN;
            }
            return all.get(i).box.pollFirst() == null ? ForkedStore.NONE : all.get(i).box.size();
        }

        int passProof(int i, int to) {
            if (noUser(i) || noUser(to)) {
                return ForkedStore.UNKNOWN;
            }
            if (i == to) {
                return ForkedStore.BAD_VALUE;
            }
            ModelUser one = all.get(i);
            ModelUser other = all.get(to);
            if (one.first == null) {
                return ForkedStore.NOT_POSSIBLE;
            }
            one.sent += 2 * u;
            if (other.first == null) {
                other.first = one.first;
                other.second = one.second;
                other.depth = one.depth + 1;
                REACHED[7] += other.depth == 2 ? 1 : 0;
            }
            if (other.alarm == 0) {
                other.alarm = 5;
                REACHED[5]++;
                return 1;
            }
            return 0;
        }

        int count(int what) {
            int alarms = 0;
            int proofs = 0;
            int operations = 0;
            int letters = 0;
            for (ModelUser one : all) {
                alarms += one.alarm == 0 ? 0 : 1;
                proofs += one.first == null ? 0 : 1;
                operations += one.operations;
                letters += one.box.size();
            }
            int[] told = {u, views.size(), alarms, proofs, operations, letters};
            return what < 0 || what >= told.length ? ForkedStore.BAD_VALUE : told[what];
        }

        int user(int i, int what) {
            if (noUser(i)) {
                return ForkedStore.UNKNOWN;
            }
            ModelUser one = all.get(i);
            int[] told = {
                views.indexOf(one.view), one.alarm, one.first == null ? 0 : 1, one.box.size(), one.operations,
                one.begun * u * u, one.sent, one.first == null ? ForkedStore.NONE : one.depth,
            };
            return what < 0 || what >= told.length ? ForkedStore.BAD_VALUE : told[what];
        }

        int vector(int i, int kind, int place) {
            if (noUser(i) || noUser(place)) {
                return ForkedStore.UNKNOWN;
            }
            if (kind < 0 || kind > 3) {
                return ForkedStore.BAD_VALUE;
            }
            ModelUser one = all.get(i);
            int[][] told = {one.signed, one.known, one.first, one.second};
            return told[kind] == null ? ForkedStore.NONE : told[kind][place];
        }

        int entry(int v, int owner, int place) {
            return noView(v) || noUser(owner) || noUser(place)
                ? ForkedStore.UNKNOWN : views.get(v).vectors[owner][place];
        }

        int content(int v, int owner) {
            return noView(v) || noUser(owner) ? ForkedStore.UNKNOWN : views.get(v).contents[owner];
        }

        int view(int v, int what) {
            if (noView(v)) {
                return ForkedStore.UNKNOWN;
            }
            ModelView view = views.get(v);
            boolean isForked = firstPair(view) != null;
            switch (what) {
                case 0:
                    int set = 0;
                    for (int i = 0; i < u; i++) {
                        set += all.get(i).view == view ? 1 << i : 0;
                    }
                    return set;
                case 1:
                    return view.before.size();
                case 2:
                    return isForked ? 0 : 1;
                case 3:
                    return isForked ? ForkedStore.NONE : Arrays.stream(top(view)).sum();
                default:
                    return ForkedStore.BAD_VALUE;
            }
        }

        int compare(int i, int j, boolean known) {
            if (noUser(i) || noUser(j)) {
                return ForkedStore.UNKNOWN;
            }
            int[] a = known ? all.get(i).known : all.get(i).signed;
            int[] b = known ? all.get(j).known : all.get(j).signed;
            if (Arrays.equals(a, b)) {
                return 0;
            }
            return atMost(a, b) ? -1 : atMost(b, a) ? 1 : 2;
        }

        int forkedPairs() {
            int pairs = 0;
            for (int i = 0; i < u; i++) {
                for (int j = 0; j < i; j++) {
                    pairs += compare(i, j, true) == 2 ? 1 : 0;
                }
            }
            return pairs;
        }

        int tellingLetter() {
            int least = Integer.MAX_VALUE;
            for (int to = u - 1; to >= 0; to--) {
                for (int i = u - 1; i >= 0; i--) {
                    if (i != to && all.get(to).alarm == 0 && compare(i, to, true) == 2) {
                        least = Math.min(least, 10 * i + to);
                    }
                }
            }
            return least == Integer.MAX_VALUE ? ForkedStore.NONE : least;
        }

        int unaware() {
            int set = 0;
            for (int i = 0; i < u; i++) {
                boolean isUnaware = check(i) == 0;
                for (int j = 0; j < u; j++) {
                    isUnaware = isUnaware && compare(i, j, true) != 2;
                }
                set += isUnaware ? 1 << i : 0;
            }
            return set;
        }

        int type(char character) {
            if (text.length() == 60) {
                return ForkedStore.FULL;
            }
            text = text + character;
            return text.length();
        }

        int clearText() {
            int previous = text.length();
            text = "";
            return previous;
        }

        int run() {
            for (int i = 0; i < text.length(); i++) {
                if ((i % 3 == 0 ? "wrsgm" : "0123456789").indexOf(text.charAt(i)) < 0) {
                    return -100 - i;
                }
            }
            if (text.length() % 3 != 0) {
                return -100 - text.length();
            }
            int done = 0;
            while (done * 3 < text.length() && carryOut(text.substring(done * 3, done * 3 + 3))) {
                done++;
            }
            REACHED[10] += done >= 6 ? 1 : 0;
            return done;
        }

        boolean carryOut(String command) {
            int x = command.charAt(1) - '0';
            int y = command.charAt(2) - '0';
            switch (command.charAt(0)) {
                case 'w':
                    return write(x, y) > -10000;
                case 'r':
                    return read(x, y) > -10000;
                case 's':
                    return sendLetter(x, y) > -10000;
                case 'm':
                    return attach(x, y) > -10000;
                default:
                    boolean isFine = !noUser(x);
                    for (int i = 0; i < y && isFine; i++) {
                        isFine = readLetter(x) > -10000;
                    }
                    return isFine;
            }
        }

        /** What Due.picture tells of a store. */
        String picture() {
            StringBuilder told = new StringBuilder();
            for (int what = 0; what <= 5; what++) {
                told.append(count(what)).append(',');
            }
            for (int i = 0; i < u; i++) {
                told.append("\nuser ").append(i).append(": ").append(lastRead(i)).append(',').append(check(i));
                for (int what = 0; what <= 7; what++) {
                    told.append(',').append(user(i, what));
                }
                for (int kind = 0; kind <= 3; kind++) {
                    told.append(" (");
                    for (int place = 0; place < u; place++) {
                        told.append(place == 0 ? "" : " ").append(vector(i, kind, place));
                    }
                    told.append(')');
                }
                for (int j = 0; j < u; j++) {
                    told.append(',').append(compare(i, j, true)).append(',').append(compare(i, j, false));
                }
            }
            for (int v = 0; v < views.size(); v++) {
                told.append("\nview ").append(v).append(':');
                for (int what = 0; what <= 3; what++) {
                    told.append(',').append(view(v, what));
                }
                for (int i = 0; i < u; i++) {
                    String vector = Arrays.toString(views.get(v).vectors[i]).replace(",", "");
                    told.append(" (").append(vector, 1, vector.length() - 1).append(") ").append(content(v, i));
                }
            }
            told.append('\n').append(forkedPairs()).append(',').append(tellingLetter()).append(',').append(unaware());
            return told.toString();
        }
    }
}
