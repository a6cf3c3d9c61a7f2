/** The boundaries of what is told: promises 15 to 24. */
public final class TellingEdgeTest {
    private TellingEdgeTest() {
    }

    public static void main(String[] args) {
        promise15RangeOfWhat();
        promise15LeastAndMost();
        promise15OperationsCarriedOut();
        promise16RangeOfWhat();
        promise16NoneWithoutAProof();
        promise17RangeOfKind();
        promise17RangeOfPlace();
        promise18EachEntryAndPlace();
        promise19EachView();
        promise20RangeOfWhat();
        promise20NobodyToEverybody();
        promise20ComparableInPairs();
        promise20SumOfTheGreatestVector();
        promise21EachRelationInEachPlace();
        promise21SignedOrKnown();
        promise22NoneToAllPairs();
        promise22EqualAndLesserVectors();
        promise22ToPromise24KnownNotSigned();
        promise23TheLeastOfAll();
        promise23OnlyToUsersWithoutAnAlarm();
        promise24AllToNobody();
        promise24WithAnAlarm();
        promise24CheckIsNotZero();
        promise24KnownVectorsOfAllUsers();
        Due.finish();
    }

    private static void promise15RangeOfWhat() {
        ForkedStore x = new ForkedStore();
        int[] due = {3, 1, 0, 0, 0, 0};
        for (int what = 0; what <= 5; what++) {
            Due.due("count(" + what + ")", x.count(what), due[what]);
        }
        Due.due("count(-1)", x.count(-1), ForkedStore.BAD_VALUE);
        Due.due("count(6)", x.count(6), ForkedStore.BAD_VALUE);
    }

    private static void promise15LeastAndMost() {
        for (int u = 2; u <= 5; u++) {
            ForkedStore x = Scenes.apart(u);
            Due.due("count(0)", x.count(0), u);
            Due.due("count(1)", x.count(1), u);
            Due.due("count(2)", x.count(2), 0);
            Due.due("count(3)", x.count(3), 0);
            Due.due("count(4)", x.count(4), u);
            for (int i = 0; i < u; i++) {
                for (int letters = 1; letters <= 4; letters++) {
                    x.sendLetter((i + 1) % u, i);
                    Due.due("count(5)", x.count(5), 4 * i + letters);
                }
            }
            for (int i = 0; i < u; i++) {
                x.readLetter(i);
                Due.due("count(2)", x.count(2), i + 1);
                Due.due("count(3)", x.count(3), i + 1);
                Due.due("count(5)", x.count(5), 4 * u - i - 1);
            }
            Due.due("count(4)", x.count(4), u);
        }
        for (int alarm = 1; alarm <= 3; alarm += 2) {
            ForkedStore x = Scenes.alarmed(alarm);
            Due.due("with alarm " + alarm, x.count(2), 1);
            Due.due("without a proof", x.count(3), 0);
        }
        Due.due("six views", Scenes.fullViews().count(1), 6);
    }

    private static void promise15OperationsCarriedOut() {
        ForkedStore x = new ForkedStore();
        x.write(0, 1);
        x.read(1, 0);
        Due.due("count(4)", x.count(4), 2);
        x.check(0);
        x.write(0, 1001);
        x.read(0, 3);
        Due.due("refused calls", x.count(4), 2);
        x.rollBack(0, 2);
        Due.due("taken back", x.count(4), 2);
        x.read(1, 0);
        Due.due("an alarm", x.count(4), 2);
        x.write(2, 1);
        Due.due("count(4)", x.count(4), 3);
        Due.due("user(0, 4)", x.user(0, 4), 1);
        Due.due("user(1, 4)", x.user(1, 4), 1);
        Due.due("user(2, 4)", x.user(2, 4), 1);
    }

    private static void promise16RangeOfWhat() {
        ForkedStore x = Scenes.rich();
        int[] due = {1, 4, 1, 0, 2, 18, 9, 0};
        for (int what = 0; what <= 7; what++) {
            Due.due("user(1, " + what + ")", x.user(1, what), due[what]);
        }
        Due.due("user(1, -1)", x.user(1, -1), ForkedStore.BAD_VALUE);
        Due.due("user(1, 8)", x.user(1, 8), ForkedStore.BAD_VALUE);
        for (int what = 0; what <= 6; what++) {
            Due.due("user(0, " + what + ") of a new store", new ForkedStore().user(0, what), 0);
        }
        for (int alarm = 1; alarm <= 5; alarm++) {
            Due.due("user(1, 1)", Scenes.alarmed(alarm).user(1, 1), alarm);
        }
    }

    private static void promise16NoneWithoutAProof() {
        Due.due("user(0, 7) of a new store", new ForkedStore().user(0, 7), ForkedStore.NONE);
        int[] due = {ForkedStore.NONE, 0, ForkedStore.NONE, 0, 1};
        for (int alarm = 1; alarm <= 5; alarm++) {
            Due.due("user(1, 7) with alarm " + alarm, Scenes.alarmed(alarm).user(1, 7), due[alarm - 1]);
        }
    }

    private static void promise17RangeOfKind() {
        ForkedStore x = new ForkedStore();
        x.fork(0, 2);
        x.write(0, 1);
        x.sendLetter(0, 2);
        x.readLetter(2);
        x.write(1, 1);
        x.write(1, 2);
        Due.due("vector(2, 0, 0)", x.vector(2, 0, 0), 0);
        Due.due("vector(2, 1, 0)", x.vector(2, 1, 0), 1);
        Due.due("vector(2, 2, 0)", x.vector(2, 2, 0), ForkedStore.NONE);
        Due.due("vector(2, 3, 0)", x.vector(2, 3, 0), ForkedStore.NONE);
        Due.due("vector(2, 4, 0)", x.vector(2, 4, 0), ForkedStore.BAD_VALUE);
        Due.due("vector(2, -1, 0)", x.vector(2, -1, 0), ForkedStore.BAD_VALUE);
        x.sendLetter(1, 2);
        Due.due("readLetter(2)", x.readLetter(2), 2);
        Due.due("vector(2, 2, 0)", x.vector(2, 2, 0), 1);
        Due.due("vector(2, 2, 1)", x.vector(2, 2, 1), 0);
        Due.due("vector(2, 3, 0)", x.vector(2, 3, 0), 0);
        Due.due("vector(2, 3, 1)", x.vector(2, 3, 1), 2);
        Due.due("vector(2, 4, 0)", x.vector(2, 4, 0), ForkedStore.BAD_VALUE);
        Due.due("vector(1, 3, 0)", x.vector(1, 3, 0), ForkedStore.NONE);
        Due.due("an alarm without a proof", Scenes.alarmed(1).vector(1, 2, 0), ForkedStore.NONE);
    }

    private static void promise17RangeOfPlace() {
        for (int u = 2; u <= 5; u++) {
            ForkedStore x = Scenes.apart(u);
            x.sendLetter(1, 0);
            x.readLetter(0);
            for (int place = 0; place < u; place++) {
                Due.due("signed of 0", x.vector(0, 0, place), place == 0 ? 1 : 0);
                Due.due("known of 0", x.vector(0, 1, place), place == 0 ? 1 : 0);
                Due.due("first of 0", x.vector(0, 2, place), place == 0 ? 1 : 0);
                Due.due("second of 0", x.vector(0, 3, place), place == 1 ? 1 : 0);
                Due.due("signed of the last", x.vector(u - 1, 0, place), place == u - 1 ? 1 : 0);
            }
            for (int kind = 0; kind <= 4; kind++) {
                Due.due("place u", x.vector(0, kind, u), ForkedStore.UNKNOWN);
                Due.due("place -1", x.vector(0, kind, -1), ForkedStore.UNKNOWN);
                Due.due("user u", x.vector(u, kind, 0), ForkedStore.UNKNOWN);
                Due.due("user -1", x.vector(-1, kind, 0), ForkedStore.UNKNOWN);
            }
        }
    }

    private static void promise18EachEntryAndPlace() {
        for (int u = 2; u <= 5; u++) {
            ForkedStore x = Scenes.apart(u);
            for (int view = 0; view < u; view++) {
                for (int owner = 0; owner < u; owner++) {
                    for (int place = 0; place < u; place++) {
                        int due = view == owner && place == owner ? 1 : 0;
                        Due.due("entry(" + view + ", " + owner + ", " + place + ")", x.entry(view, owner, place), due);
                    }
                }
            }
            Due.due("entry(u, 0, 0)", x.entry(u, 0, 0), ForkedStore.UNKNOWN);
            Due.due("entry(-1, 0, 0)", x.entry(-1, 0, 0), ForkedStore.UNKNOWN);
            Due.due("entry(0, u, 0)", x.entry(0, u, 0), ForkedStore.UNKNOWN);
            Due.due("entry(0, -1, 0)", x.entry(0, -1, 0), ForkedStore.UNKNOWN);
            Due.due("entry(0, 0, u)", x.entry(0, 0, u), ForkedStore.UNKNOWN);
            Due.due("entry(0, 0, -1)", x.entry(0, 0, -1), ForkedStore.UNKNOWN);
        }
    }

    private static void promise19EachView() {
        for (int u = 2; u <= 5; u++) {
            ForkedStore x = Scenes.apart(u);
            for (int view = 0; view < u; view++) {
                for (int owner = 0; owner < u; owner++) {
                    int due = view == owner ? 10 + owner : 0;
                    Due.due("content(" + view + ", " + owner + ")", x.content(view, owner), due);
                }
            }
            Due.due("content(u, 0)", x.content(u, 0), ForkedStore.UNKNOWN);
            Due.due("content(-1, 0)", x.content(-1, 0), ForkedStore.UNKNOWN);
            Due.due("content(0, u)", x.content(0, u), ForkedStore.UNKNOWN);
            Due.due("content(0, -1)", x.content(0, -1), ForkedStore.UNKNOWN);
        }
    }

    private static void promise20RangeOfWhat() {
        ForkedStore x = new ForkedStore();
        int[] due = {7, 0, 1, 0};
        for (int what = 0; what <= 3; what++) {
            Due.due("view(0, " + what + ")", x.view(0, what), due[what]);
        }
        Due.due("view(0, -1)", x.view(0, -1), ForkedStore.BAD_VALUE);
        Due.due("view(0, 4)", x.view(0, 4), ForkedStore.BAD_VALUE);
        Due.due("view(1, 0)", x.view(1, 0), ForkedStore.UNKNOWN);
        Due.due("view(5, 0) of six views", Scenes.fullViews().view(5, 0), 1);
        Due.due("view(6, 0) of six views", Scenes.fullViews().view(6, 0), ForkedStore.UNKNOWN);
    }

    private static void promise20NobodyToEverybody() {
        for (int u = 2; u <= 5; u++) {
            ForkedStore x = Due.storeFor(u);
            int all = (1 << u) - 1;
            x.fork(0, all);
            Due.due("nobody", x.view(0, 0), 0);
            Due.due("everybody", x.view(1, 0), all);
            for (int i = 0; i < u; i++) {
                x.attach(i, 0);
                Due.due("view(0, 0)", x.view(0, 0), (1 << (i + 1)) - 1);
                Due.due("view(1, 0)", x.view(1, 0), all - (1 << (i + 1)) + 1);
            }
        }
    }

    /** Each pair of entries can be the only incomparable one. */
    private static void promise20ComparableInPairs() {
        for (int lower = 0; lower < 5; lower++) {
            for (int higher = lower + 1; higher < 5; higher++) {
                ForkedStore x = Due.storeFor(5);
                x.fork(0, 1 << higher);
                x.write(lower, 1);
                x.write(higher, 1);
                Due.due("view(0, 2)", x.view(0, 2), 1);
                Due.due("view(0, 3)", x.view(0, 3), 1);
                x.mix(0, 1);
                Due.due("view(0, 2) with " + lower + " and " + higher, x.view(0, 2), 0);
                Due.due("view(0, 3) with " + lower + " and " + higher, x.view(0, 3), ForkedStore.NONE);
                Due.due("view(1, 2)", x.view(1, 2), 1);
                Due.due("view(1, 3)", x.view(1, 3), 1);
            }
        }
    }

    private static void promise20SumOfTheGreatestVector() {
        for (int u = 2; u <= 5; u++) {
            ForkedStore x = Due.storeFor(u);
            Due.due("view(0, 3) at first", x.view(0, 3), 0);
            for (int i = 1; i <= 12; i++) {
                x.read(i * 3 % u, 0);
                Due.due("view(0, 3)", x.view(0, 3), i);
            }
            x.rollBack(0, 5);
            Due.due("view(0, 3)", x.view(0, 3), 7);
        }
        // Two views go on from a shared operation: the sum of the greatest vector, not of the greatest numbers.
        ForkedStore x = new ForkedStore();
        x.write(0, 1);
        x.fork(0, 2);
        x.write(1, 1);
        Due.due("view(0, 3)", x.view(0, 3), 1);
        Due.due("view(1, 3)", x.view(1, 3), 2);
        x.mix(0, 1);
        Due.due("view(0, 3)", x.view(0, 3), 2);
    }

    private static void promise21EachRelationInEachPlace() {
        for (int i = 0; i < 5; i++) {
            ForkedStore x = Due.storeFor(5);
            int other = (i + 1) % 5;
            Due.due("zeros", x.compare(i, other, true), 0);
            Due.due("zeros", x.compare(i, other, false), 0);
            x.fork(0, 1 << other);
            x.write(i, 1);
            for (int kind = 0; kind <= 1; kind++) {
                boolean known = kind == 1;
                Due.due("greater in one place", x.compare(i, other, known), 1);
                Due.due("less in one place", x.compare(other, i, known), -1);
                Due.due("the same one", x.compare(i, i, known), 0);
            }
            x.write(other, 1);
            for (int kind = 0; kind <= 1; kind++) {
                boolean known = kind == 1;
                Due.due("greater and less", x.compare(i, other, known), 2);
                Due.due("less and greater", x.compare(other, i, known), 2);
                Due.due("the same one", x.compare(other, other, known), 0);
            }
        }
    }

    private static void promise21SignedOrKnown() {
        ForkedStore x = new ForkedStore();
        x.fork(0, 2);
        x.write(0, 1);
        x.write(1, 1);
        x.sendLetter(1, 2);
        x.readLetter(2);
        Due.due("signed of 2 and 1", x.compare(2, 1, false), -1);
        Due.due("known of 2 and 1", x.compare(2, 1, true), 0);
        Due.due("signed of 2 and 0", x.compare(2, 0, false), -1);
        Due.due("known of 2 and 0", x.compare(2, 0, true), 2);
        Due.due("signed of 0 and 2", x.compare(0, 2, false), 1);
        Due.due("known of 0 and 2", x.compare(0, 2, true), 2);
        Due.due("user(2, 1)", x.user(2, 1), 0);
        x.sendLetter(0, 1);
        x.readLetter(1);
        Due.due("an alarm does not matter", x.compare(0, 1, true), 2);
    }

    private static void promise22NoneToAllPairs() {
        for (int u = 2; u <= 5; u++) {
            Due.due("no pair", Due.storeFor(u).forkedPairs(), 0);
            ForkedStore x = Scenes.apart(u);
            Due.due("all pairs", x.forkedPairs(), u * (u - 1) / 2);
            for (int i = 0; i < u; i++) {
                x.sendLetter((i + 1) % u, i);
                x.readLetter(i);
            }
            Due.due("all with an alarm", x.count(2), u);
            Due.due("all pairs", x.forkedPairs(), u * (u - 1) / 2);
        }
        for (int lower = 0; lower < 5; lower++) {
            for (int higher = lower + 1; higher < 5; higher++) {
                ForkedStore x = Due.storeFor(5);
                x.fork(0, 1 << higher);
                x.write(lower, 1);
                Due.due("no pair", x.forkedPairs(), 0);
                x.write(higher, 1);
                Due.due("one pair", x.forkedPairs(), 1);
                Due.due("tellingLetter()", x.tellingLetter(), 10 * lower + higher);
            }
        }
    }

    private static void promise22EqualAndLesserVectors() {
        ForkedStore x = Due.storeFor(5);
        for (int i = 0; i < 5; i++) {
            x.write(i, 1);
            Due.due("one is at most the other one", x.forkedPairs(), 0);
        }
        x.sendLetter(4, 0);
        x.readLetter(0);
        Due.due("equal ones", x.forkedPairs(), 0);
        Due.due("compare(0, 4, true)", x.compare(0, 4, true), 0);
        Due.due("tellingLetter()", x.tellingLetter(), ForkedStore.NONE);
    }

    /** A user that has signed nothing knows from a letter what is incomparable with the others' vectors. */
    private static void promise22ToPromise24KnownNotSigned() {
        for (int reader = 0; reader < 4; reader++) {
            int writer = (reader + 1) % 4;
            int other = (reader + 2) % 4;
            ForkedStore x = Due.storeFor(4);
            x.fork(0, 1 << writer);
            x.write(writer, 1);
            x.write(other, 1);
            x.sendLetter(writer, reader);
            Due.due("before it is read", x.forkedPairs(), 1);
            Due.due("readLetter", x.readLetter(reader), 1);
            Due.due("forkedPairs()", x.forkedPairs(), 2);
            int least = Math.min(writer, reader);
            Due.due("tellingLetter()", x.tellingLetter(), Math.min(10 * least + other, 10 * other + least));
            Due.due("unaware()", x.unaware(), 1 << (reader + 3) % 4);
        }
    }

    private static void promise23TheLeastOfAll() {
        for (int u = 2; u <= 5; u++) {
            Due.due("no such letter", Due.storeFor(u).tellingLetter(), ForkedStore.NONE);
            Due.due("the least one of all", Scenes.apart(u).tellingLetter(), 1);
        }
        ForkedStore x = Due.storeFor(5);
        x.fork(0, 16);
        x.write(3, 1);
        x.write(4, 1);
        Due.due("the only pair", x.tellingLetter(), 34);
        x.write(2, 1);
        Due.due("with the lower sender", x.tellingLetter(), 24);
        x.write(0, 1);
        Due.due("with the lowest sender", x.tellingLetter(), 4);
        x.fork(0, 4);
        x.write(2, 2);
        x.write(0, 2);
        Due.due("with the lower receiver", x.tellingLetter(), 2);
        for (int i = 0; i < 4; i++) {
            x.sendLetter(4, 2);
        }
        Due.due("a full box does not matter", x.tellingLetter(), 2);
    }

    private static void promise23OnlyToUsersWithoutAnAlarm() {
        ForkedStore x = Scenes.apart(3);
        x.sendLetter(0, 1);
        x.readLetter(1);
        Due.due("not to 1", x.tellingLetter(), 2);
        x.sendLetter(0, 2);
        x.readLetter(2);
        Due.due("from 1, who has an alarm", x.tellingLetter(), 10);
        x.sendLetter(1, 0);
        x.readLetter(0);
        Due.due("all have an alarm", x.tellingLetter(), ForkedStore.NONE);
        Due.due("forkedPairs()", x.forkedPairs(), 3);
        for (int u = 2; u <= 5; u++) {
            ForkedStore y = Due.storeFor(u);
            y.fork(0, 1 << (u - 1));
            y.write(0, 1);
            y.write(u - 1, 1);
            y.sendLetter(0, u - 1);
            y.readLetter(u - 1);
            Due.due("only from the last user", y.tellingLetter(), 10 * (u - 1));
        }
        int[] due = {ForkedStore.NONE, 2, ForkedStore.NONE, 10, 2};
        for (int alarm = 1; alarm <= 5; alarm++) {
            Due.due("with alarm " + alarm, Scenes.alarmed(alarm).tellingLetter(), due[alarm - 1]);
        }
    }

    private static void promise24AllToNobody() {
        for (int u = 2; u <= 5; u++) {
            ForkedStore x = Due.storeFor(u);
            int all = (1 << u) - 1;
            Due.due("all of a new store", x.unaware(), all);
            for (int i = 0; i < u; i++) {
                x.write(i, 1);
            }
            Due.due("all of an honest store", x.unaware(), all);
            for (int i = 1; i < u; i++) {
                x.fork(0, 1 << i);
            }
            Due.due("all, though there is a fork", x.unaware(), all);
            Due.due("nobody", Scenes.apart(u).unaware(), 0);
        }
        for (int i = 0; i < 5; i++) {
            ForkedStore x = Due.storeFor(5);
            x.write(i, 1);
            x.rollBack(0, 1);
            Due.due("all but " + i, x.unaware(), 31 - (1 << i));
        }
    }

    private static void promise24WithAnAlarm() {
        // User 1 never belongs to them; the others do where nothing tells them of a lie yet.
        int[] due = {5, 0, 5, 4, 0};
        for (int alarm = 1; alarm <= 5; alarm++) {
            Due.due("the others with alarm " + alarm, Scenes.alarmed(alarm).unaware(), due[alarm - 1]);
        }
        // The entry is back: but for its alarm, user i could not find out anything.
        for (int i = 0; i < 3; i++) {
            ForkedStore x = new ForkedStore();
            x.write(i, 1);
            x.fork(0, 1 << (i + 1) % 3);
            x.rollBack(0, 1);
            Due.due("read", x.read(i, i), 1);
            x.mix(0, 1);
            Due.due("check", x.check((i + 2) % 3), 0);
            Due.due("all but " + i, x.unaware(), 7 - (1 << i));
        }
    }

    private static void promise24CheckIsNotZero() {
        ForkedStore x = new ForkedStore();
        x.write(1, 1);
        x.rollBack(0, 1);
        Due.due("check(1)", x.check(1), 1);
        Due.due("unaware()", x.unaware(), 5);
        x = new ForkedStore();
        x.fork(0, 1);
        x.write(0, 1);
        x.sendLetter(0, 1);
        Due.due("before the letter is read", x.unaware(), 7);
        x.readLetter(1);
        Due.due("check(1)", x.check(1), 3);
        Due.due("unaware()", x.unaware(), 5);
        x.attach(1, 1);
        Due.due("check(1)", x.check(1), 0);
        Due.due("unaware()", x.unaware(), 7);
        x = Scenes.mixed();
        Due.due("check(0)", x.check(0), 2);
        Due.due("unaware()", x.unaware(), 0);
    }

    private static void promise24KnownVectorsOfAllUsers() {
        ForkedStore x = Due.storeFor(4);
        x.fork(0, 2);
        x.write(0, 1);
        x.write(1, 1);
        Due.due("check(0)", x.check(0), 0);
        Due.due("check(1)", x.check(1), 0);
        Due.due("unaware()", x.unaware(), 12);
        x.sendLetter(0, 1);
        x.readLetter(1);
        Due.due("that of a user with an alarm, too", x.unaware(), 12);
        x.sendLetter(1, 2);
        x.readLetter(2);
        Due.due("unaware()", x.unaware(), 8);
        x.sendLetter(0, 3);
        x.readLetter(3);
        Due.due("unaware()", x.unaware(), 0);
        Due.due("check(3)", x.check(3), 0);
    }
}
