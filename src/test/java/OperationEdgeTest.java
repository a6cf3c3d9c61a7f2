/** The boundaries of users, vectors and operations: what the document says of them, and promises 1 to 6. */
public final class OperationEdgeTest {
    private OperationEdgeTest() {
    }

    public static void main(String[] args) {
        usersAreTwoToFiveAtFirstThree();
        registersAreAtFirstZero();
        onlyItsOwnerWritesARegister();
        allUsersReadAllRegisters();
        vectorsAtFirstConsistOfZeros();
        theSignedVectorIsAtMostTheKnownOne();
        atFirstThereIsOneViewWithAllUsers();
        aUserWithAnAlarmCarriesOutNoOperations();
        aUserWithAnAlarmCanSendAndRead();
        promise2RangeOfUsers();
        promise2ReturnsThePreviousNumber();
        promise2NothingStaysOfAnyUser();
        promise2TheTextStays();
        promise3RangeOfValues();
        alarm1OneOperationBack();
        alarm1NotWhenTheEntryIsBack();
        alarm1WithTheOthers();
        alarm2WithAlarm3();
        alarm2OfEachPair();
        alarm3NotWhenTheKnownVectorIsEqual();
        alarm3OneNumberAbove();
        withAnAlarmNothingElseHappens();
        theNewVectorIsTheGreatestIncreased();
        eachViewRemembersFiveOperations();
        alarmsAreNotRemembered();
        promise5Told();
        promise5OnlyReadingThatRaisedNoAlarm();
        promise6TellsWhatAReadingWouldReturn();
        costsOfOperations();
        fiveHundredAndTwelveCalls();
        Due.finish();
    }

    private static void usersAreTwoToFiveAtFirstThree() {
        Due.due("count(0)", new ForkedStore().count(0), 3);
        Due.due("check(2)", new ForkedStore().check(2), 0);
        Due.due("check(3)", new ForkedStore().check(3), ForkedStore.UNKNOWN);
        for (int u = 2; u <= 5; u++) {
            ForkedStore x = Due.storeFor(u);
            Due.due("count(0)", x.count(0), u);
            Due.due("write(-1, 0)", x.write(-1, 0), ForkedStore.UNKNOWN);
            Due.due("write(u, 0)", x.write(u, 0), ForkedStore.UNKNOWN);
            Due.due("read(0, u)", x.read(0, u), ForkedStore.UNKNOWN);
            Due.due("write(0, 0)", x.write(0, 0), 0);
            Due.due("write(u - 1, 0)", x.write(u - 1, 0), 0);
            Due.due("read(u - 1, u - 1)", x.read(u - 1, u - 1), 0);
            Due.due("sendLetter(0, u)", x.sendLetter(0, u), ForkedStore.UNKNOWN);
            Due.due("sendLetter(0, u - 1)", x.sendLetter(0, u - 1), 1);
            Due.due("attach(u, 0)", x.attach(u, 0), ForkedStore.UNKNOWN);
            Due.due("attach(u - 1, 0)", x.attach(u - 1, 0), 0);
            Due.due("fork of u", x.fork(0, 1 << u), ForkedStore.BAD_VALUE);
            Due.due("fork of u - 1", x.fork(0, 1 << (u - 1)), 1);
        }
    }

    private static void registersAreAtFirstZero() {
        for (int u = 2; u <= 5; u++) {
            ForkedStore x = Due.storeFor(u);
            for (int i = 0; i < u; i++) {
                Due.due("content(0, " + i + ")", x.content(0, i), 0);
                Due.due("read(0, " + i + ")", x.read(0, i), 0);
                Due.due("lastRead(0)", x.lastRead(0), 0);
            }
        }
    }

    private static void onlyItsOwnerWritesARegister() {
        for (int u = 2; u <= 5; u++) {
            ForkedStore x = Due.storeFor(u);
            for (int i = 0; i < u; i++) {
                x.write(i, 10 + i);
                for (int j = 0; j < u; j++) {
                    Due.due("content(0, " + j + ") behind write(" + i + ")", x.content(0, j), j <= i ? 10 + j : 0);
                }
            }
            x.read(u - 1, 0);
            Due.due("reading writes nothing", x.content(0, u - 1), 10 + u - 1);
        }
    }

    private static void allUsersReadAllRegisters() {
        for (int u = 2; u <= 5; u++) {
            ForkedStore x = Due.storeFor(u);
            for (int i = 0; i < u; i++) {
                x.write(i, 100 * (i + 1));
            }
            for (int reader = 0; reader < u; reader++) {
                for (int owner = 0; owner < u; owner++) {
                    Due.due("read(" + reader + ", " + owner + ")", x.read(reader, owner), 0);
                    Due.due("lastRead(" + reader + ")", x.lastRead(reader), 100 * (owner + 1));
                }
            }
        }
    }

    private static void vectorsAtFirstConsistOfZeros() {
        for (int u = 2; u <= 5; u++) {
            ForkedStore x = Due.storeFor(u);
            for (int i = 0; i < u; i++) {
                for (int place = 0; place < u; place++) {
                    Due.due("signed", x.vector(i, 0, place), 0);
                    Due.due("known", x.vector(i, 1, place), 0);
                    Due.due("entry", x.entry(0, i, place), 0);
                }
                Due.due("no third place", x.vector(i, 0, u), ForkedStore.UNKNOWN);
            }
        }
    }

    private static void theSignedVectorIsAtMostTheKnownOne() {
        ForkedStore x = new ForkedStore();
        x.write(0, 1);
        Due.due("equal behind an operation", Due.vector(x, 0, 1), Due.vector(x, 0, 0));
        x.sendLetter(0, 1);
        x.write(1, 1);
        Due.due("equal behind an operation", Due.vector(x, 1, 1), Due.vector(x, 1, 0));
        x.write(0, 2);
        x.sendLetter(0, 1);
        Due.due("readLetter(1)", x.readLetter(1), 0);
        Due.due("readLetter(1)", x.readLetter(1), 1);
        Due.due("signed of 1", Due.vector(x, 1, 0), "1 1 0");
        Due.due("known of 1", Due.vector(x, 1, 1), "2 1 0");
        Due.due("write(1, 2)", x.write(1, 2), 0);
        Due.due("signed of 1", Due.vector(x, 1, 0), "2 2 0");
        Due.due("known of 1", Due.vector(x, 1, 1), "2 2 0");
    }

    private static void atFirstThereIsOneViewWithAllUsers() {
        for (int u = 2; u <= 5; u++) {
            ForkedStore x = Due.storeFor(u);
            Due.due("count(1)", x.count(1), 1);
            Due.due("view(0, 0)", x.view(0, 0), (1 << u) - 1);
            Due.due("view(1, 0)", x.view(1, 0), ForkedStore.UNKNOWN);
            for (int i = 0; i < u; i++) {
                Due.due("user(" + i + ", 0)", x.user(i, 0), 0);
                Due.due("user(" + i + ", 1)", x.user(i, 1), 0);
            }
        }
    }

    private static void aUserWithAnAlarmCarriesOutNoOperations() {
        for (int alarm = 1; alarm <= 5; alarm++) {
            ForkedStore x = Scenes.alarmed(alarm);
            Due.due("user(1, 1)", x.user(1, 1), alarm);
            Due.due("write(1, 1)", x.write(1, 1), ForkedStore.NOT_POSSIBLE);
            Due.due("read(1, 1)", x.read(1, 1), ForkedStore.NOT_POSSIBLE);
            Due.due("check(1)", x.check(1), ForkedStore.NOT_POSSIBLE);
            x.fork(x.user(1, 0), 2);
            Due.due("write(1, 1) in a view of its own", x.write(1, 1), ForkedStore.NOT_POSSIBLE);
            Due.due("user(1, 1)", x.user(1, 1), alarm);
        }
    }

    private static void aUserWithAnAlarmCanSendAndRead() {
        int[] results = {0, 1, 0, 0, 1};
        for (int alarm = 1; alarm <= 5; alarm++) {
            ForkedStore x = Scenes.alarmed(alarm);
            int sent = x.user(1, 6);
            Due.due("sendLetter(1, 2)", x.sendLetter(1, 2), 1);
            Due.due("user(1, 6)", x.user(1, 6), sent + 3);
            x.sendLetter(2, 1);
            Due.due("user(1, 3)", x.user(1, 3), 1);
            Due.due("readLetter(1)", x.readLetter(1), results[alarm - 1]);
            Due.due("user(1, 3)", x.user(1, 3), 0);
            Due.due("user(1, 1)", x.user(1, 1), alarm);
        }
    }

    private static void promise2RangeOfUsers() {
        ForkedStore x = new ForkedStore();
        Due.due("reset(1)", x.reset(1), ForkedStore.BAD_VALUE);
        Due.due("reset(2)", x.reset(2), 3);
        Due.due("reset(5)", x.reset(5), 2);
        Due.due("reset(6)", x.reset(6), ForkedStore.BAD_VALUE);
        Due.due("reset(0)", x.reset(0), ForkedStore.BAD_VALUE);
        Due.due("count(0)", x.count(0), 5);
    }

    private static void promise2ReturnsThePreviousNumber() {
        for (int previous = 2; previous <= 5; previous++) {
            for (int next = 2; next <= 5; next++) {
                ForkedStore x = Due.storeFor(previous);
                Due.due("reset(" + next + ")", x.reset(next), previous);
                Due.due("count(0)", x.count(0), next);
            }
        }
    }

    private static void promise2NothingStaysOfAnyUser() {
        for (int previous = 2; previous <= 5; previous++) {
            for (int next = 2; next <= 5; next++) {
                ForkedStore x = Scenes.apart(previous);
                x.write(previous - 1, 3);
                x.read(previous - 1, 0);
                x.sendLetter(0, previous - 1);
                x.sendLetter(previous - 1, 0);
                x.readLetter(previous - 1);
                x.reset(next);
                Due.due("behind reset(" + next + ")", Due.picture(x), Due.picture(Due.storeFor(next)));
                for (int i = 0; i < next; i++) {
                    Due.due("readLetter(" + i + ")", x.readLetter(i), ForkedStore.NONE);
                }
                Due.due("rollBack(0, 1)", x.rollBack(0, 1), ForkedStore.NONE);
                Due.due("fork(0, 1)", x.fork(0, 1), 1);
                Due.due("view(1, 1)", x.view(1, 1), 0);
                Due.due("view(1, 3)", x.view(1, 3), 0);
            }
        }
        for (int alarm = 1; alarm <= 5; alarm++) {
            ForkedStore x = Scenes.alarmed(alarm);
            x.reset(3);
            Due.due("behind alarm " + alarm, Due.picture(x), Due.picture(new ForkedStore()));
        }
        // What all users wrote in view 0 is gone, for fewer users and then for all of them again.
        for (int next = 2; next <= 5; next++) {
            ForkedStore x = fiveHaveWritten();
            x.reset(next);
            Due.due("behind reset(" + next + ")", Due.picture(x), Due.picture(Due.storeFor(next)));
            x.write(0, 1);
            Due.due("view(0, 3)", x.view(0, 3), 1);
            x = fiveHaveWritten();
            x.reset(next);
            x.write(0, 1);
            x.reset(5);
            Due.due("behind reset(5)", Due.picture(x), Due.picture(Due.storeFor(5)));
        }
    }

    private static ForkedStore fiveHaveWritten() {
        ForkedStore x = Due.storeFor(5);
        for (int i = 0; i < 5; i++) {
            x.write(i, 10 + i);
            x.read(i, i);
        }
        return x;
    }

    private static void promise2TheTextStays() {
        for (int length : new int[] {0, 1, 3, 59, 60}) {
            ForkedStore x = new ForkedStore();
            for (int i = 0; i < length; i++) {
                x.type("w07".charAt(i % 3));
            }
            x.reset(2);
            Due.due("run() of " + length, x.run(), length % 3 == 0 ? length / 3 : -100 - length);
            Due.due("clearText()", x.clearText(), length);
        }
    }

    private static void promise3RangeOfValues() {
        for (int value : new int[] {-1000, -999, -1, 0, 1, 999, 1000}) {
            ForkedStore x = new ForkedStore();
            Due.due("write(1, " + value + ")", x.write(1, value), 0);
            Due.due("content(0, 1)", x.content(0, 1), value);
            x.read(2, 1);
            Due.due("lastRead(2)", x.lastRead(2), value);
        }
        for (int value : new int[] {-1001, 1001, Integer.MIN_VALUE, Integer.MAX_VALUE}) {
            ForkedStore x = new ForkedStore();
            Due.due("write(1, " + value + ")", x.write(1, value), ForkedStore.BAD_VALUE);
            Due.due("content(0, 1)", x.content(0, 1), 0);
        }
    }

    private static void alarm1OneOperationBack() {
        for (int u = 2; u <= 5; u++) {
            ForkedStore x = Due.storeFor(u);
            x.write(u - 1, 1);
            x.write(0, 1);
            x.write(u - 1, 2);
            Due.due("check(u - 1)", x.check(u - 1), 0);
            x.rollBack(0, 1);
            Due.due("one operation is missing", x.check(u - 1), 1);
            Due.due("who lost none", x.check(0), 0);
            x.rollBack(0, 1);
            Due.due("write(0, 1)", x.write(0, 1), 1);
            Due.due("write(u - 1, 1)", x.write(u - 1, 1), 1);
            Due.due("count(2)", x.count(2), 2);
            Due.due("alarm 1 gives no proof", x.count(3), 0);
        }
    }

    private static void alarm1NotWhenTheEntryIsBack() {
        ForkedStore x = new ForkedStore();
        x.write(1, 7);
        x.fork(0, 4);
        x.rollBack(0, 1);
        Due.due("check(1)", x.check(1), 1);
        Due.due("mix(0, 1)", x.mix(0, 1), 1);
        Due.due("check(1)", x.check(1), 0);
        x.attach(1, 1);
        Due.due("write(1, 8) in the other view", x.write(1, 8), 0);
        x.attach(1, 0);
        Due.due("write(1, 9)", x.write(1, 9), 1);
    }

    /** The own entry is not the signed vector, and each of the other checks fails, too. */
    private static void alarm1WithTheOthers() {
        ForkedStore x = Scenes.mixed();
        x.attach(2, 0);
        Due.due("forked entries", x.view(0, 2), 0);
        Due.due("alarm 1 before 2 and 3", x.read(2, 0), 1);
        Due.due("no proof", x.user(2, 2), 0);
        x = Scenes.mixed();
        x.rollBack(2, 1);
        x.attach(2, 2);
        Due.due("comparable entries", x.view(2, 2), 1);
        Due.due("alarm 1 before 3", x.write(2, 0), 1);
        Due.due("no proof", x.user(2, 2), 0);
    }

    private static void alarm2WithAlarm3() {
        ForkedStore x = Due.storeFor(4);
        x.fork(0, 1);
        x.fork(0, 2);
        x.fork(0, 4);
        x.write(0, 1);
        x.write(1, 1);
        x.write(2, 1);
        x.mix(0, 1);
        x.mix(0, 2);
        x.sendLetter(2, 3);
        Due.due("readLetter(3)", x.readLetter(3), 1);
        Due.due("alarm 2 before 3", x.write(3, 1), 2);
        Due.due("first", Due.vector(x, 3, 2), "1 0 0 0");
        Due.due("second", Due.vector(x, 3, 3), "0 1 0 0");
    }

    /** Each pair of entries can be the only incomparable one; the proof shows the lower user's vector first. */
    private static void alarm2OfEachPair() {
        for (int lower = 0; lower < 5; lower++) {
            for (int higher = lower + 1; higher < 5; higher++) {
                ForkedStore x = Due.storeFor(5);
                int checker = lower > 0 ? 0 : higher > 1 ? 1 : 2;
                x.fork(0, 1 << higher);
                x.write(lower, 1);
                x.write(higher, 2);
                x.mix(0, 1);
                String call = "read with " + lower + " and " + higher + " forked";
                Due.due(call, x.read(checker, checker), 2);
                for (int place = 0; place < 5; place++) {
                    Due.due("first", x.vector(checker, 2, place), place == lower ? 1 : 0);
                    Due.due("second", x.vector(checker, 3, place), place == higher ? 1 : 0);
                }
                Due.due("of the two themselves", x.check(lower), 2);
                Due.due("of the two themselves", x.check(higher), 2);
            }
        }
    }

    private static void alarm3NotWhenTheKnownVectorIsEqual() {
        for (int i = 0; i < 4; i++) {
            ForkedStore x = Due.storeFor(5);
            x.write(i, 1);
            x.sendLetter(i, 4);
            Due.due("readLetter(4)", x.readLetter(4), 1);
            Due.due("the known vector is the greatest one", x.check(4), 0);
            Due.due("write(4, 1)", x.write(4, 1), 0);
            Due.due("user(4, 1)", x.user(4, 1), 0);
        }
    }

    /** The known vector has in one place a number that is greater by one than any that is shown. */
    private static void alarm3OneNumberAbove() {
        for (int i = 0; i < 4; i++) {
            ForkedStore x = Due.storeFor(5);
            x.write(i, 1);
            x.write(i, 2);
            x.sendLetter(i, 4);
            x.readLetter(4);
            x.rollBack(0, 1);
            Due.due("check(4)", x.check(4), 3);
            Due.due("write(4, 1)", x.write(4, 1), 3);
            Due.due("the greatest vector is at most the known one", x.user(4, 2), 0);
            Due.due("known of 4", x.vector(4, 1, i), 2);
        }
        for (int i = 0; i < 3; i++) {
            ForkedStore x = Due.storeFor(5);
            x.fork(0, 1 << i);
            x.write(i, 1);
            x.write(3, 1);
            x.sendLetter(i, 4);
            x.readLetter(4);
            Due.due("read(4, 3)", x.read(4, 3), 3);
            Due.due("both are incomparable", x.user(4, 2), 1);
            Due.due("first", x.vector(4, 2, i) * 10 + x.vector(4, 2, 3), 10);
            Due.due("second", x.vector(4, 3, i) * 10 + x.vector(4, 3, 3), 1);
        }
    }

    /** But for the alarm, its proof and what was shown, all stays as it is. */
    private static void withAnAlarmNothingElseHappens() {
        for (int alarm = 1; alarm <= 3; alarm++) {
            for (int kind = 0; kind <= 1; kind++) {
                ForkedStore x = beforeAlarm(alarm);
                String entries = Due.entries(x, 0) + Due.entries(x, 1);
                String vectors = Due.vector(x, 1, 0) + " known " + Due.vector(x, 1, 1);
                int remembered = 10 * x.view(0, 1) + x.view(1, 1);
                int operations = 100 * x.count(4) + x.user(1, 4);
                int shown = x.user(1, 5);
                int sent = x.user(1, 6);
                Due.due("check(1)", x.check(1), alarm);
                Due.due("operation", kind == 0 ? x.write(1, 9) : x.read(1, 0), alarm);
                Due.due("entries", Due.entries(x, 0) + Due.entries(x, 1), entries);
                Due.due("vectors", Due.vector(x, 1, 0) + " known " + Due.vector(x, 1, 1), vectors);
                Due.due("remembered", 10 * x.view(0, 1) + x.view(1, 1), remembered);
                Due.due("operations", 100 * x.count(4) + x.user(1, 4), operations);
                Due.due("shown", x.user(1, 5), shown + 9);
                Due.due("sent", x.user(1, 6), sent);
                Due.due("lastRead(1)", x.lastRead(1), ForkedStore.NONE);
                Due.due("alarms", x.count(2), 1);
            }
        }
    }

    /** A store with two views in which the next operation of user 1 raises this alarm. */
    private static ForkedStore beforeAlarm(int alarm) {
        ForkedStore x = new ForkedStore();
        x.fork(0, 1);
        x.write(0, 1);
        if (alarm == 1) {
            x.write(1, 1);
            x.rollBack(0, 1);
        } else if (alarm == 2) {
            x.write(2, 1);
            x.mix(0, 1);
        } else {
            x.sendLetter(0, 1);
            x.readLetter(1);
        }
        return x;
    }

    private static void theNewVectorIsTheGreatestIncreased() {
        for (int u = 2; u <= 5; u++) {
            ForkedStore x = Due.storeFor(u);
            for (int i = u - 1; i >= 0; i--) {
                x.write(i, 1);
                for (int place = 0; place < u; place++) {
                    Due.due("signed of " + i, x.vector(i, 0, place), place >= i ? 1 : 0);
                    Due.due("known of " + i, x.vector(i, 1, place), place >= i ? 1 : 0);
                    Due.due("entry of " + i, x.entry(0, i, place), place >= i ? 1 : 0);
                }
                Due.due("view(0, 3)", x.view(0, 3), u - i);
            }
            x.write(0, 2);
            Due.due("the own one is the greatest", x.vector(0, 0, 0), 2);
            x.read(u - 1, 0);
            Due.due("that of the first user is the greatest", x.vector(u - 1, 0, 0), 2);
            Due.due("entries of others stay", x.entry(0, 0, u - 1), 1);
            Due.due("view(0, 3)", x.view(0, 3), u + 2);
        }
    }

    private static void eachViewRemembersFiveOperations() {
        ForkedStore x = new ForkedStore();
        Due.due("view(0, 1) at first", x.view(0, 1), 0);
        for (int i = 1; i <= 12; i++) {
            if (i % 2 == 0) {
                x.read(i % 3, 0);
            } else {
                x.write(i % 3, i);
            }
            Due.due("view(0, 1) behind " + i, x.view(0, 1), i < 5 ? i : 5);
        }
        x.fork(0, 1);
        Due.due("view(1, 1)", x.view(1, 1), 5);
        x.write(0, 1);
        Due.due("view(1, 1)", x.view(1, 1), 5);
        Due.due("view(0, 1)", x.view(0, 1), 5);
    }

    private static void alarmsAreNotRemembered() {
        ForkedStore x = new ForkedStore();
        x.write(1, 1);
        x.write(0, 2);
        x.rollBack(0, 1);
        Due.due("write(0, 3)", x.write(0, 3), 1);
        Due.due("view(0, 1)", x.view(0, 1), 1);
        Due.due("rollBack(0, 1)", x.rollBack(0, 1), 0);
        Due.due("content(0, 1)", x.content(0, 1), 0);
        Due.due("write(1, 1)", x.write(1, 1), 1);
        Due.due("view(0, 1)", x.view(0, 1), 0);
    }

    private static void promise5Told() {
        ForkedStore x = new ForkedStore();
        Due.due("lastRead(1) of none", x.lastRead(1), ForkedStore.NONE);
        x.read(1, 1);
        Due.due("lastRead(1) of its own", x.lastRead(1), 0);
        x.write(0, -1000);
        x.write(1, 1000);
        Due.due("writing tells nothing", x.lastRead(1), 0);
        x.read(1, 0);
        Due.due("lastRead(1)", x.lastRead(1), -1000);
        x.read(1, 1);
        Due.due("lastRead(1)", x.lastRead(1), 1000);
        x.rollBack(0, 2);
        Due.due("taken back, but told", x.lastRead(1), 1000);
        x.write(0, 3);
        Due.due("lastRead(1)", x.lastRead(1), 1000);
        Due.due("lastRead(0)", x.lastRead(0), ForkedStore.NONE);
        Due.due("lastRead(2)", x.lastRead(2), ForkedStore.NONE);
    }

    private static void promise5OnlyReadingThatRaisedNoAlarm() {
        ForkedStore x = new ForkedStore();
        x.write(0, 4);
        x.read(1, 0);
        x.write(0, 5);
        x.rollBack(0, 2);
        Due.due("read(1, 0)", x.read(1, 0), 1);
        Due.due("lastRead(1)", x.lastRead(1), 4);
        Due.due("read(1, 0)", x.read(1, 0), ForkedStore.NOT_POSSIBLE);
        Due.due("lastRead(1)", x.lastRead(1), 4);
        for (int alarm = 1; alarm <= 3; alarm++) {
            Due.due("lastRead(1) behind alarm " + alarm, Scenes.alarmed(alarm).lastRead(1), ForkedStore.NONE);
        }
    }

    private static void promise6TellsWhatAReadingWouldReturn() {
        for (int alarm = 1; alarm <= 3; alarm++) {
            for (int i = 0; i < 3; i++) {
                ForkedStore x = beforeAlarm(alarm);
                String before = Due.picture(x);
                int told = x.check(i);
                Due.due("check(" + i + ") again", x.check(i), told);
                Due.due("behind check(" + i + ")", Due.picture(x), before);
                Due.due("read(" + i + ", 0)", x.read(i, 0), told);
                Due.due("check(" + i + ")", x.check(i), told == 0 ? 0 : ForkedStore.NOT_POSSIBLE);
            }
        }
        Due.due("check(1) of a new store", new ForkedStore().check(1), 0);
    }

    private static void costsOfOperations() {
        for (int u = 2; u <= 5; u++) {
            ForkedStore x = Due.storeFor(u);
            x.check(0);
            x.write(0, 1001);
            x.read(0, u);
            x.write(u, 0);
            Due.due("refused calls are not shown anything", x.user(0, 5), 0);
            Due.due("and send nothing", x.user(0, 6), 0);
            x.read(0, 1);
            Due.due("shown to 0", x.user(0, 5), u * u);
            Due.due("sent by 0", x.user(0, 6), u);
            Due.due("shown to 1", x.user(1, 5), 0);
            x.rollBack(0, 1);
            Due.due("taken back", x.user(0, 5), u * u);
            Due.due("taken back", x.user(0, 6), u);
            Due.due("read(0, 1)", x.read(0, 1), 1);
            Due.due("shown with an alarm", x.user(0, 5), 2 * u * u);
            Due.due("sent with an alarm", x.user(0, 6), u);
            Due.due("read(0, 1)", x.read(0, 1), ForkedStore.NOT_POSSIBLE);
            Due.due("not begun any more", x.user(0, 5), 2 * u * u);
        }
    }

    private static void fiveHundredAndTwelveCalls() {
        ForkedStore x = new ForkedStore();
        for (int i = 1; i <= 509; i++) {
            x.write(i % 3, i % 1001);
        }
        Due.due("call 510", x.count(4), 509);
        Due.due("call 511", x.view(0, 3), 509);
        Due.due("call 512", x.rollBack(0, 5), 0);
        ForkedStore y = Due.storeFor(5);
        Due.typeAll(y, "w09w19w29w39w49w08w18w28w38w48w07w17w27w37w47w06w16w26w36w46");
        for (int i = 0; i < 449; i++) {
            y.run();
        }
        Due.due("call 511", y.count(4), 8980);
        Due.due("call 512", y.user(4, 5), 1796 * 25);
    }
}
