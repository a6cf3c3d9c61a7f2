import java.util.ArrayList;
import java.util.List;

/** The boundaries of views: what the document says of them, and promises 7 to 10. */
public final class StoreEdgeTest {
    private StoreEdgeTest() {
    }

    public static void main(String[] args) {
        sixViewsNumberedFromZero();
        aViewIsNeverRemoved();
        promise7EachSetOfAttachedUsers();
        promise7EachSetWithSomebodyElse();
        promise7NobodyIsAttached();
        promise7CopiesWhatIsRemembered();
        promise7CopiesThisView();
        promise7BothGoOnAlone();
        promise8ReturnsTheViewBefore();
        promise8AUserWithAnAlarm();
        promise9EachNumberOfOperations();
        promise9NoneBehindFive();
        promise9AndOperationsAgain();
        promise9EntriesBecomeWhatTheyWere();
        promise9OperationsStillCount();
        promise10OnlyGreaterNumbers();
        promise10ZeroToAllEntries();
        promise10VectorAndContent();
        promise10AllUsersOfTheOtherView();
        promise10RemembersNothing();
        promise10TheOtherViewStays();
        promise10AnyTwoViews();
        Due.finish();
    }

    private static void sixViewsNumberedFromZero() {
        ForkedStore x = new ForkedStore();
        for (int views = 1; views <= 6; views++) {
            Due.due("count(1)", x.count(1), views);
            Due.due("view(last, 1)", x.view(views - 1, 1), 0);
            Due.due("attach(1, last)", x.attach(1, views - 1), views < 3 ? 0 : views - 2);
            Due.due("content(last, 0)", x.content(views - 1, 0), 0);
            Due.due("entry(last, 0, 0)", x.entry(views - 1, 0, 0), 0);
            Due.due("view(next, 0)", x.view(views, 0), ForkedStore.UNKNOWN);
            Due.due("attach(1, next)", x.attach(1, views), ForkedStore.UNKNOWN);
            Due.due("content(next, 0)", x.content(views, 0), ForkedStore.UNKNOWN);
            Due.due("entry(next, 0, 0)", x.entry(views, 0, 0), ForkedStore.UNKNOWN);
            Due.due("rollBack(next, 1)", x.rollBack(views, 1), ForkedStore.UNKNOWN);
            Due.due("mix(0, next)", x.mix(0, views), ForkedStore.UNKNOWN);
            Due.due("mix(next, 0)", x.mix(views, 0), ForkedStore.UNKNOWN);
            Due.due("fork(next, 1)", x.fork(views, 1), ForkedStore.UNKNOWN);
            Due.due("view(-1, 0)", x.view(-1, 0), ForkedStore.UNKNOWN);
            Due.due("fork(0, 1)", x.fork(x.user(0, 0), 1), views < 6 ? views : ForkedStore.FULL);
        }
        Due.due("count(1)", x.count(1), 6);
        Due.due("user(0, 0)", x.user(0, 0), 5);
        Due.due("write(0, 3)", x.write(0, 3), 0);
        Due.due("content(5, 0)", x.content(5, 0), 3);
        Due.due("content(4, 0)", x.content(4, 0), 0);
        x.reset(3);
        Due.due("fork(0, 1) behind reset", x.fork(0, 1), 1);
    }

    private static void aViewIsNeverRemoved() {
        ForkedStore x = new ForkedStore();
        x.write(0, 1);
        x.fork(0, 2);
        x.mix(0, 1);
        Due.due("nobody is attached", x.view(1, 0), 0);
        Due.due("count(1)", x.count(1), 2);
        Due.due("content(1, 0)", x.content(1, 0), 1);
        x.rollBack(1, 1);
        Due.due("count(1)", x.count(1), 2);
        Due.due("attach(2, 1)", x.attach(2, 1), 0);
        Due.due("write(2, 1)", x.write(2, 1), 0);
        Due.due("fork(0, 1)", x.fork(0, 1), 2);
    }

    private static void promise7EachSetOfAttachedUsers() {
        for (int u = 2; u <= 5; u++) {
            int all = (1 << u) - 1;
            for (int set = 1; set <= all; set++) {
                ForkedStore x = Due.storeFor(u);
                Due.due("fork(0, " + set + ")", x.fork(0, set), 1);
                Due.due("view(0, 0)", x.view(0, 0), all - set);
                Due.due("view(1, 0)", x.view(1, 0), set);
                for (int i = 0; i < u; i++) {
                    Due.due("user(" + i + ", 0)", x.user(i, 0), set >> i & 1);
                }
            }
        }
    }

    private static void promise7EachSetWithSomebodyElse() {
        for (int set = -40; set <= 70; set++) {
            ForkedStore x = Due.storeFor(4);
            x.fork(0, 6);
            // Users 0 and 3 are attached to view 0, users 1 and 2 to view 1.
            boolean isFine = set == 1 || set == 8 || set == 9;
            Due.due("fork(0, " + set + ")", x.fork(0, set), isFine ? 2 : ForkedStore.BAD_VALUE);
            Due.due("count(1)", x.count(1), isFine ? 3 : 2);
            isFine = set == 2 || set == 4 || set == 6;
            x.reset(4);
            x.fork(0, 6);
            Due.due("fork(1, " + set + ")", x.fork(1, set), isFine ? 2 : ForkedStore.BAD_VALUE);
        }
        for (int bit = 4; bit < 32; bit++) {
            ForkedStore x = Due.storeFor(4);
            Due.due("fork with bit " + bit, x.fork(0, 1 << bit), ForkedStore.BAD_VALUE);
            Due.due("fork with bit " + bit, x.fork(0, 1 | 1 << bit), ForkedStore.BAD_VALUE);
            Due.due("view(0, 0)", x.view(0, 0), 15);
        }
    }

    private static void promise7NobodyIsAttached() {
        ForkedStore x = new ForkedStore();
        Due.due("fork(0, 7)", x.fork(0, 7), 1);
        for (int set = 0; set <= 8; set++) {
            Due.due("fork(0, " + set + ")", x.fork(0, set), ForkedStore.BAD_VALUE);
        }
        Due.due("fork(1, 7)", x.fork(1, 7), 2);
        x.attach(2, 0);
        Due.due("fork(0, 4)", x.fork(0, 4), 3);
    }

    private static void promise7CopiesWhatIsRemembered() {
        for (int operations = 0; operations <= 7; operations++) {
            ForkedStore x = new ForkedStore();
            for (int i = 1; i <= operations; i++) {
                x.write(0, i);
            }
            int remembered = Math.min(operations, 5);
            Due.due("fork(0, 2)", x.fork(0, 2), 1);
            Due.due("view(0, 1)", x.view(0, 1), remembered);
            Due.due("view(1, 1)", x.view(1, 1), remembered);
            Due.due("content(1, 0)", x.content(1, 0), operations);
            for (int back = 1; back <= remembered; back++) {
                Due.due("rollBack(1, 1)", x.rollBack(1, 1), remembered - back);
                Due.due("content(1, 0)", x.content(1, 0), operations - back);
                Due.due("entry(1, 0, 0)", x.entry(1, 0, 0), operations - back);
            }
            Due.due("rollBack(1, 1)", x.rollBack(1, 1), ForkedStore.NONE);
            Due.due("view(0, 1)", x.view(0, 1), remembered);
            Due.due("content(0, 0)", x.content(0, 0), operations);
        }
    }

    private static void promise7CopiesThisView() {
        for (int view = 0; view < 5; view++) {
            ForkedStore x = Scenes.apart(5);
            x.write(view, 50);
            Due.due("fork of all who are attached to " + view, x.fork(view, 1 << view), 5);
            Due.due("entries of the copy", Due.entries(x, 5), Due.entries(x, view));
            Due.due("content(5, " + view + ")", x.content(5, view), 50);
            Due.due("view(5, 1)", x.view(5, 1), 2);
            Due.due("write in the copy", x.write(view, 60), 0);
            Due.due("content(view, view)", x.content(view, view), 50);
            Due.due("rollBack(5, 3)", x.rollBack(5, 3), 0);
            Due.due("view(view, 1)", x.view(view, 1), 2);
        }
    }

    private static void promise7BothGoOnAlone() {
        ForkedStore x = new ForkedStore();
        x.write(0, 1);
        x.fork(0, 6);
        x.write(0, 2);
        x.write(1, 3);
        x.write(2, 4);
        Due.due("entries of view 0", Due.entries(x, 0), " (2 0 0) 2 (0 0 0) 0 (0 0 0) 0");
        Due.due("entries of view 1", Due.entries(x, 1), " (1 0 0) 1 (1 1 0) 3 (1 1 1) 4");
        Due.due("rollBack(0, 2)", x.rollBack(0, 2), 0);
        Due.due("entries of view 1", Due.entries(x, 1), " (1 0 0) 1 (1 1 0) 3 (1 1 1) 4");
        Due.due("rollBack(1, 3)", x.rollBack(1, 3), 0);
        Due.due("entries of view 0", Due.entries(x, 0), " (0 0 0) 0 (0 0 0) 0 (0 0 0) 0");
        Due.due("entries of view 1", Due.entries(x, 1), " (0 0 0) 0 (0 0 0) 0 (0 0 0) 0");
    }

    private static void promise8ReturnsTheViewBefore() {
        ForkedStore x = new ForkedStore();
        for (int view = 0; view < 5; view++) {
            x.fork(view, 1);
        }
        for (int from = 0; from < 6; from++) {
            for (int to = 0; to < 6; to++) {
                x.attach(1, from);
                Due.due("attach(1, " + to + ")", x.attach(1, to), from);
                Due.due("user(1, 0)", x.user(1, 0), to);
                Due.due("view(to, 0)", x.view(to, 0) & 2, 2);
            }
        }
        Due.due("attach(0, 5) to its own", x.attach(0, 5), 5);
        Due.due("attach(2, 5)", x.attach(2, 5), 0);
        Due.due("view(0, 0)", x.view(0, 0), 0);
        Due.due("view(5, 0)", x.view(5, 0), 7);
        Due.due("attach(2, 0)", x.attach(2, 0), 5);
        Due.due("view(0, 0)", x.view(0, 0), 4);
    }

    private static void promise8AUserWithAnAlarm() {
        for (int alarm = 1; alarm <= 5; alarm++) {
            ForkedStore x = Scenes.alarmed(alarm);
            x.fork(0, x.user(2, 0) == 0 ? 4 : 2);
            int last = x.count(1) - 1;
            Due.due("attach(1, last)", x.attach(1, last), 0);
            Due.due("user(1, 0)", x.user(1, 0), last);
            Due.due("user(1, 1)", x.user(1, 1), alarm);
        }
    }

    private static void promise9EachNumberOfOperations() {
        for (int done = 0; done <= 8; done++) {
            int remembered = Math.min(done, 5);
            for (int back = 0; back <= 6; back++) {
                ForkedStore x = new ForkedStore();
                for (int i = 1; i <= done; i++) {
                    x.write(0, i);
                }
                boolean isInRange = back >= 1 && back <= 5;
                boolean isFine = isInRange && back <= remembered;
                int refused = isInRange ? ForkedStore.NONE : ForkedStore.BAD_VALUE;
                Due.due("rollBack(0, " + back + ") of " + done, x.rollBack(0, back), isFine ? remembered - back : refused);
                int left = isFine ? done - back : done;
                Due.due("content(0, 0)", x.content(0, 0), left);
                Due.due("entry(0, 0, 0)", x.entry(0, 0, 0), left);
                Due.due("view(0, 1)", x.view(0, 1), isFine ? remembered - back : remembered);
                Due.due("check(0)", x.check(0), isFine ? 1 : 0);
            }
        }
    }

    private static void promise9NoneBehindFive() {
        for (int done = 5; done <= 11; done++) {
            ForkedStore x = new ForkedStore();
            for (int i = 1; i <= done; i++) {
                x.write(2, i);
            }
            Due.due("rollBack(0, 3)", x.rollBack(0, 3), 2);
            Due.due("rollBack(0, 3)", x.rollBack(0, 3), ForkedStore.NONE);
            Due.due("rollBack(0, 2)", x.rollBack(0, 2), 0);
            Due.due("rollBack(0, 1)", x.rollBack(0, 1), ForkedStore.NONE);
            Due.due("content(0, 2)", x.content(0, 2), done - 5);
        }
    }

    /** Operations of user 0, some of them taken back, then operations of user 1, all taken back. */
    private static void promise9AndOperationsAgain() {
        for (int first = 0; first <= 11; first++) {
            for (int back = 0; back <= Math.min(first, 5); back++) {
                for (int then = 0; then <= 7; then++) {
                    operationsAgain(first, back, then);
                }
            }
        }
    }

    private static void operationsAgain(int first, int back, int then) {
        ForkedStore x = new ForkedStore();
        List<int[]> before = new ArrayList<>();
        for (int i = 1; i <= first; i++) {
            before.add(new int[] {i - 1, 0});
            x.write(0, i);
        }
        while (before.size() > 5) {
            before.remove(0);
        }
        if (back > 0) {
            Due.due("rollBack(0, " + back + ")", x.rollBack(0, back), before.size() - back);
        }
        for (int i = 0; i < back; i++) {
            before.remove(before.size() - 1);
        }
        for (int i = 1; i <= then; i++) {
            before.add(new int[] {first - back, i - 1});
            Due.due("write(1, " + i + ")", x.write(1, i), 0);
        }
        while (before.size() > 5) {
            before.remove(0);
        }
        Due.due("view(0, 1)", x.view(0, 1), before.size());
        while (!before.isEmpty()) {
            int[] contents = before.remove(before.size() - 1);
            Due.due("rollBack(0, 1)", x.rollBack(0, 1), before.size());
            Due.due("content(0, 0)", x.content(0, 0), contents[0]);
            Due.due("content(0, 1)", x.content(0, 1), contents[1]);
            Due.due("entry(0, 1, 1)", x.entry(0, 1, 1), contents[1]);
        }
        Due.due("rollBack(0, 1)", x.rollBack(0, 1), ForkedStore.NONE);
    }

    private static void promise9EntriesBecomeWhatTheyWere() {
        for (int back = 1; back <= 5; back++) {
            ForkedStore x = new ForkedStore();
            String[] before = new String[6];
            for (int i = 0; i < 6; i++) {
                before[i] = Due.entries(x, 0);
                Due.due("operation " + i, i % 2 == 0 ? x.write(i % 3, i) : x.read(i % 3, 0), 0);
            }
            Due.due("rollBack(0, " + back + ")", x.rollBack(0, back), 5 - back);
            Due.due("entries", Due.entries(x, 0), before[6 - back]);
        }
    }

    private static void promise9OperationsStillCount() {
        ForkedStore x = new ForkedStore();
        x.write(0, 1);
        x.read(1, 0);
        x.write(2, 2);
        x.read(2, 0);
        x.write(0, 3);
        String signed = Due.vector(x, 0, 0) + Due.vector(x, 1, 0) + Due.vector(x, 2, 0);
        String known = Due.vector(x, 0, 1) + Due.vector(x, 1, 1) + Due.vector(x, 2, 1);
        Due.due("rollBack(0, 5)", x.rollBack(0, 5), 0);
        Due.due("count(4)", x.count(4), 5);
        Due.due("user(0, 4)", x.user(0, 4), 2);
        Due.due("user(1, 4)", x.user(1, 4), 1);
        Due.due("user(2, 4)", x.user(2, 4), 2);
        Due.due("signed", Due.vector(x, 0, 0) + Due.vector(x, 1, 0) + Due.vector(x, 2, 0), signed);
        Due.due("known", Due.vector(x, 0, 1) + Due.vector(x, 1, 1) + Due.vector(x, 2, 1), known);
        Due.due("lastRead(1)", x.lastRead(1), 1);
        Due.due("user(0, 5)", x.user(0, 5), 18);
        Due.due("user(0, 6)", x.user(0, 6), 6);
        Due.due("count(2)", x.count(2), 0);
        Due.due("view(0, 0)", x.view(0, 0), 7);
    }

    /** The number of the own user in both views: less, equal, greater by one, and greater by more. */
    private static void promise10OnlyGreaterNumbers() {
        for (int here = 0; here <= 3; here++) {
            for (int there = 0; there <= 3; there++) {
                ForkedStore x = new ForkedStore();
                x.write(0, 10);
                x.write(0, 20);
                x.write(0, 30);
                x.fork(0, 4);
                // To take 0 operations back is refused: all three stay.
                x.rollBack(0, 3 - here);
                x.rollBack(1, 3 - there);
                String call = "mix(0, 1) with " + here + " here and " + there + " there";
                Due.due(call, x.mix(0, 1), there > here ? 1 : 0);
                Due.due("entry(0, 0, 0)", x.entry(0, 0, 0), Math.max(here, there));
                Due.due("content(0, 0)", x.content(0, 0), 10 * Math.max(here, there));
                Due.due("entry(1, 0, 0)", x.entry(1, 0, 0), there);
            }
        }
    }

    private static void promise10ZeroToAllEntries() {
        for (int u = 2; u <= 5; u++) {
            for (int set = 0; set < 1 << u; set++) {
                ForkedStore x = Due.storeFor(u);
                x.fork(0, (1 << u) - 1);
                for (int i = 0; i < u; i++) {
                    if ((set >> i & 1) == 1) {
                        x.write(i, 10 + i);
                    }
                }
                Due.due("mix(0, 1) of " + set, x.mix(0, 1), Integer.bitCount(set));
                for (int i = 0; i < u; i++) {
                    Due.due("content(0, " + i + ")", x.content(0, i), (set >> i & 1) == 1 ? 10 + i : 0);
                    Due.due("entry(0, " + i + ")", Due.entry(x, 0, i), Due.entry(x, 1, i));
                }
                Due.due("view(0, 0)", x.view(0, 0), (1 << u) - 1);
                Due.due("mix(0, 1) again", x.mix(0, 1), 0);
                Due.due("mix(1, 0)", x.mix(1, 0), 0);
                Due.due("view(1, 0)", x.view(1, 0), (1 << u) - 1);
            }
        }
    }

    /** The whole vector comes, and the content, also where the content was greater; reading counts, too. */
    private static void promise10VectorAndContent() {
        ForkedStore x = new ForkedStore();
        x.write(1, 900);
        x.fork(0, 6);
        x.write(1, -900);
        x.read(2, 1);
        x.write(0, 5);
        Due.due("mix(0, 1)", x.mix(0, 1), 2);
        Due.due("entries", Due.entries(x, 0), " (1 1 0) 5 (0 2 0) -900 (0 2 1) 0");
        Due.due("view(0, 2)", x.view(0, 2), 0);
        Due.due("mix(1, 0)", x.mix(1, 0), 1);
        Due.due("entries", Due.entries(x, 1), " (1 1 0) 5 (0 2 0) -900 (0 2 1) 0");
    }

    private static void promise10AllUsersOfTheOtherView() {
        ForkedStore x = Due.storeFor(5);
        x.fork(0, 6);
        x.fork(0, 8);
        x.write(1, 1);
        x.rollBack(1, 1);
        x.read(1, 1);
        Due.due("user(1, 1)", x.user(1, 1), 1);
        Due.due("mix(2, 1)", x.mix(2, 1), 0);
        Due.due("those of the other view, with an alarm, too", x.view(2, 0), 14);
        Due.due("nobody is left", x.view(1, 0), 0);
        Due.due("others stay", x.view(0, 0), 17);
        Due.due("mix(2, 1) with nobody", x.mix(2, 1), 0);
        Due.due("view(2, 0)", x.view(2, 0), 14);
        Due.due("mix(1, 2) into one with nobody", x.mix(1, 2), 0);
        Due.due("view(1, 0)", x.view(1, 0), 14);
        Due.due("mix(1, 0)", x.mix(1, 0), 0);
        Due.due("view(1, 0)", x.view(1, 0), 31);
    }

    private static void promise10RemembersNothing() {
        for (int operations = 0; operations <= 6; operations++) {
            ForkedStore x = new ForkedStore();
            x.fork(0, 2);
            for (int i = 1; i <= operations; i++) {
                x.write(0, i);
            }
            Due.due("mix(0, 1)", x.mix(0, 1), 0);
            Due.due("view(0, 1)", x.view(0, 1), 0);
            Due.due("rollBack(0, 1)", x.rollBack(0, 1), ForkedStore.NONE);
            Due.due("content(0, 0)", x.content(0, 0), operations);
            x.write(0, 100);
            Due.due("view(0, 1)", x.view(0, 1), 1);
            Due.due("rollBack(0, 2)", x.rollBack(0, 2), ForkedStore.NONE);
            Due.due("rollBack(0, 1)", x.rollBack(0, 1), 0);
            Due.due("content(0, 0)", x.content(0, 0), operations);
        }
    }

    private static void promise10TheOtherViewStays() {
        for (int operations = 0; operations <= 6; operations++) {
            ForkedStore x = new ForkedStore();
            x.fork(0, 2);
            for (int i = 1; i <= operations; i++) {
                x.write(1, i);
            }
            String other = Due.entries(x, 1);
            Due.due("mix(0, 1)", x.mix(0, 1), operations > 0 ? 1 : 0);
            Due.due("view(1, 1)", x.view(1, 1), Math.min(operations, 5));
            Due.due("entries of the other one", Due.entries(x, 1), other);
            Due.due("write(1, 50) in view 0", x.write(1, 50), 0);
            Due.due("entries of the other one", Due.entries(x, 1), other);
            if (operations > 0) {
                x.rollBack(1, 1);
                Due.due("content(1, 1)", x.content(1, 1), operations - 1);
                Due.due("content(0, 1)", x.content(0, 1), 50);
            }
        }
    }

    private static void promise10AnyTwoViews() {
        for (int view = 0; view < 6; view++) {
            for (int other = 0; other < 6; other++) {
                ForkedStore x = new ForkedStore();
                for (int i = 0; i < 5; i++) {
                    x.fork(i, 1);
                }
                x.attach(2, other);
                x.write(2, 8);
                int due = view == other ? ForkedStore.BAD_VALUE : 1;
                Due.due("mix(" + view + ", " + other + ")", x.mix(view, other), due);
                Due.due("content(" + view + ", 2)", x.content(view, 2), 8);
                Due.due("user(2, 0)", x.user(2, 0), view);
                Due.due("count(1)", x.count(1), 6);
                Due.due("what the view remembers", x.view(view, 1), view == other ? 1 : 0);
                Due.due("what the other view remembers", x.view(other, 1), 1);
            }
        }
    }
}
