/** The boundaries of letters and proofs: what the document says of them, and promises 11 to 14. */
public final class LetterEdgeTest {
    private LetterEdgeTest() {
    }

    public static void main(String[] args) {
        aBoxHoldsFourLetters();
        eachUserHasABox();
        lettersAreReadInTheOrderOfSending();
        lettersOfSeveralSenders();
        aLetterCarriesTheKnownVector();
        aLetterCarriesWhatWasKnownWhenSent();
        promise12ResultsInEachPlace();
        promise12Alarm4ChangesNothingElse();
        promise12ResultsWithEachAlarm();
        promise13OneLetterAfterTheOther();
        promise13LosesTheFirstLetter();
        whichAlarmsGiveAProof();
        theFirstPairIsThatOfTheLowestUsers();
        theFirstProofIsKept();
        aProofDoesNotChange();
        promise14DepthFromUserToUser();
        promise14AnAlarmWithoutAProof();
        promise14AProofThatIsNotNeeded();
        promise14BackToTheGiver();
        costsOfLettersAndProofs();
        Due.finish();
    }

    private static void aBoxHoldsFourLetters() {
        for (int u = 2; u <= 5; u++) {
            ForkedStore x = Due.storeFor(u);
            int last = u - 1;
            Due.due("the empty box", x.user(last, 3), 0);
            Due.due("readLetter of the empty box", x.readLetter(last), ForkedStore.NONE);
            Due.due("loseLetter of the empty box", x.loseLetter(last), ForkedStore.NONE);
            for (int i = 1; i <= 4; i++) {
                Due.due("sendLetter(0, last)", x.sendLetter(0, last), i);
                Due.due("user(last, 3)", x.user(last, 3), i);
            }
            Due.due("a fifth letter", x.sendLetter(0, last), ForkedStore.FULL);
            Due.due("a fifth letter of another user", x.sendLetter(u - 2, last), ForkedStore.FULL);
            Due.due("user(last, 3)", x.user(last, 3), 4);
            Due.due("readLetter(last)", x.readLetter(last), 0);
            Due.due("there is room again", x.sendLetter(0, last), 4);
            Due.due("sendLetter(0, last)", x.sendLetter(0, last), ForkedStore.FULL);
            Due.due("loseLetter(last)", x.loseLetter(last), 3);
            Due.due("there is room again", x.sendLetter(0, last), 4);
            for (int left = 3; left >= 0; left--) {
                Due.due("readLetter(last)", x.readLetter(last), 0);
                Due.due("user(last, 3)", x.user(last, 3), left);
            }
            Due.due("readLetter(last)", x.readLetter(last), ForkedStore.NONE);
        }
    }

    private static void eachUserHasABox() {
        for (int u = 2; u <= 5; u++) {
            ForkedStore x = Due.storeFor(u);
            for (int to = 0; to < u; to++) {
                for (int i = 1; i <= 4; i++) {
                    Due.due("sendLetter(.., " + to + ")", x.sendLetter(to == 0 ? 1 : 0, to), i);
                    Due.due("count(5)", x.count(5), 4 * to + i);
                }
            }
            for (int to = 0; to < u; to++) {
                Due.due("sendLetter(.., " + to + ")", x.sendLetter(to == 0 ? 1 : 0, to), ForkedStore.FULL);
            }
            Due.due("count(5)", x.count(5), 4 * u);
        }
    }

    /** One letter is read and another one sent, with 0 to 3 letters that wait. */
    private static void lettersAreReadInTheOrderOfSending() {
        for (int waiting = 0; waiting <= 3; waiting++) {
            ForkedStore x = new ForkedStore();
            for (int i = 1; i <= waiting; i++) {
                x.write(0, i);
                x.sendLetter(0, 2);
            }
            for (int i = 1; i <= 12; i++) {
                x.write(0, i);
                Due.due("sendLetter(0, 2)", x.sendLetter(0, 2), waiting + 1);
                Due.due("readLetter(2)", x.readLetter(2), 1);
                Due.due("known of 2", Due.vector(x, 2, 1), i + " 0 0");
            }
            Due.due("user(2, 3)", x.user(2, 3), waiting);
        }
    }

    private static void lettersOfSeveralSenders() {
        ForkedStore x = Due.storeFor(4);
        x.sendLetter(2, 3);
        x.write(1, 1);
        x.sendLetter(1, 3);
        x.write(0, 1);
        x.sendLetter(0, 3);
        x.sendLetter(1, 3);
        Due.due("that of 2", x.readLetter(3), 0);
        Due.due("that of 1", x.readLetter(3), 1);
        Due.due("known of 3", Due.vector(x, 3, 1), "0 1 0 0");
        Due.due("that of 0", x.readLetter(3), 1);
        Due.due("known of 3", Due.vector(x, 3, 1), "1 1 0 0");
        Due.due("the second one of 1", x.readLetter(3), 0);
        Due.due("no letter", x.readLetter(3), ForkedStore.NONE);
    }

    private static void aLetterCarriesTheKnownVector() {
        ForkedStore x = Due.storeFor(5);
        x.write(0, 1);
        for (int i = 1; i < 5; i++) {
            x.sendLetter(i - 1, i);
            Due.due("readLetter(" + i + ")", x.readLetter(i), 1);
            Due.due("known of " + i, Due.vector(x, i, 1), "1 0 0 0 0");
            Due.due("signed of " + i, Due.vector(x, i, 0), "0 0 0 0 0");
        }
    }

    private static void aLetterCarriesWhatWasKnownWhenSent() {
        ForkedStore x = new ForkedStore();
        x.sendLetter(0, 1);
        x.write(0, 1);
        x.sendLetter(0, 1);
        x.write(0, 2);
        x.write(2, 1);
        x.sendLetter(2, 0);
        Due.due("what 0 knew first", x.readLetter(1), 0);
        Due.due("known of 1", Due.vector(x, 1, 1), "0 0 0");
        Due.due("readLetter(0)", x.readLetter(0), 1);
        Due.due("what 0 knew then", x.readLetter(1), 1);
        Due.due("known of 1", Due.vector(x, 1, 1), "1 0 0");
    }

    private static void promise12ResultsInEachPlace() {
        for (int place = 0; place < 4; place++) {
            int other = (place + 1) % 4;
            ForkedStore x = Due.storeFor(5);
            x.fork(0, 1 << other);
            x.sendLetter(place, 4);
            Due.due("an equal vector of zeros", x.readLetter(4), 0);
            x.write(place, 1);
            x.write(other, 1);
            x.sendLetter(place, 4);
            x.sendLetter(place, 4);
            Due.due("greater by one in one place", x.readLetter(4), 1);
            Due.due("known of 4", x.vector(4, 1, place), 1);
            Due.due("an equal vector", x.readLetter(4), 0);
            x.sendLetter((place + 2) % 4, 4);
            Due.due("less by one in one place", x.readLetter(4), 0);
            Due.due("known of 4", x.vector(4, 1, place), 1);
            Due.due("user(4, 1)", x.user(4, 1), 0);
            x.sendLetter(other, 4);
            Due.due("less in one place and greater in another", x.readLetter(4), 2);
            Due.due("user(4, 1)", x.user(4, 1), 4);
            Due.due("known of 4", x.vector(4, 1, place), 1);
            Due.due("known of 4", x.vector(4, 1, other), 0);
            Due.due("first", x.vector(4, 2, place), 1);
            Due.due("first", x.vector(4, 2, other), 0);
            Due.due("second", x.vector(4, 3, place), 0);
            Due.due("second", x.vector(4, 3, other), 1);
        }
    }

    private static void promise12Alarm4ChangesNothingElse() {
        ForkedStore x = Scenes.apart(3);
        x.sendLetter(0, 1);
        x.sendLetter(2, 1);
        String entries = Due.entries(x, 0) + Due.entries(x, 1) + Due.entries(x, 2);
        Due.due("readLetter(1)", x.readLetter(1), 2);
        Due.due("entries", Due.entries(x, 0) + Due.entries(x, 1) + Due.entries(x, 2), entries);
        Due.due("known of 1", Due.vector(x, 1, 1), "0 1 0");
        Due.due("signed of 1", Due.vector(x, 1, 0), "0 1 0");
        Due.due("user(1, 0)", x.user(1, 0), 1);
        Due.due("the second letter waits", x.user(1, 3), 1);
        Due.due("user(1, 4)", x.user(1, 4), 1);
        Due.due("user(1, 5)", x.user(1, 5), 9);
        Due.due("user(1, 6)", x.user(1, 6), 3);
        Due.due("view(1, 1)", x.view(1, 1), 1);
        Due.due("the sender does not notice", x.user(0, 1), 0);
        Due.due("count(2)", x.count(2), 1);
    }

    /**
     * User 1 of five has this alarm; one user knows nothing, one knows more than user 1, and user 4 knows what is
     * incomparable with that.
     */
    private static ForkedStore alarmedOfFive(int alarm) {
        ForkedStore x = Due.storeFor(5);
        x.fork(0, 16);
        x.write(4, 1);
        if (alarm == 1) {
            x.write(1, 1);
            x.fork(0, 8);
            x.rollBack(0, 1);
            x.read(1, 1);
            x.write(3, 1);
            return x;
        }
        int own = x.fork(0, 1);
        x.write(0, 1);
        if (alarm == 2) {
            x.write(2, 1);
            x.mix(0, own);
            x.read(1, 1);
        } else if (alarm == 3) {
            x.sendLetter(0, 1);
            x.readLetter(1);
            x.read(1, 1);
            x.attach(3, own);
            x.write(3, 1);
        } else if (alarm == 4) {
            x.write(1, 1);
            x.sendLetter(0, 1);
            x.readLetter(1);
            x.write(3, 1);
        } else {
            x.write(2, 1);
            x.sendLetter(2, 0);
            x.readLetter(0);
            x.passProof(0, 1);
        }
        return x;
    }

    private static void promise12ResultsWithEachAlarm() {
        int[] unknowing = {2, 3, 2, 2, 3};
        int[] greater = {3, 0, 3, 3, 2};
        for (int alarm = 1; alarm <= 5; alarm++) {
            ForkedStore x = alarmedOfFive(alarm);
            boolean hasProof = alarm != 1 && alarm != 3;
            Due.due("user(1, 1)", x.user(1, 1), alarm);
            Due.due("user(1, 2)", x.user(1, 2), hasProof ? 1 : 0);
            String known = Due.vector(x, 1, 1);
            String proof = Due.vector(x, 1, 2) + " and " + Due.vector(x, 1, 3);
            x.sendLetter(unknowing[alarm - 1], 1);
            x.sendLetter(greater[alarm - 1], 1);
            x.sendLetter(4, 1);
            Due.due("result 0 with alarm " + alarm, x.readLetter(1), 0);
            Due.due("known of 1", Due.vector(x, 1, 1), known);
            known = Due.vector(x, greater[alarm - 1], 1);
            Due.due("result 1 with alarm " + alarm, x.readLetter(1), 1);
            Due.due("known of 1", Due.vector(x, 1, 1), known);
            Due.due("no new proof", Due.vector(x, 1, 2) + " and " + Due.vector(x, 1, 3), proof);
            Due.due("result 2 with alarm " + alarm, x.readLetter(1), 2);
            Due.due("known of 1", Due.vector(x, 1, 1), known);
            Due.due("user(1, 1)", x.user(1, 1), alarm);
            Due.due("user(1, 2)", x.user(1, 2), 1);
            Due.due("user(1, 7)", x.user(1, 7), alarm == 5 ? 1 : 0);
            String found = known + " and 0 0 0 0 1";
            Due.due("proof", Due.vector(x, 1, 2) + " and " + Due.vector(x, 1, 3), hasProof ? proof : found);
        }
    }

    private static void promise13OneLetterAfterTheOther() {
        for (int letters = 0; letters <= 4; letters++) {
            ForkedStore x = new ForkedStore();
            for (int i = 0; i < letters; i++) {
                x.sendLetter(0, 1);
            }
            for (int left = letters - 1; left >= 0; left--) {
                Due.due("loseLetter(1)", x.loseLetter(1), left);
                Due.due("user(1, 3)", x.user(1, 3), left);
            }
            Due.due("loseLetter(1) of none", x.loseLetter(1), ForkedStore.NONE);
            Due.due("readLetter(1) of none", x.readLetter(1), ForkedStore.NONE);
            Due.due("sendLetter(0, 1)", x.sendLetter(0, 1), 1);
        }
    }

    private static void promise13LosesTheFirstLetter() {
        ForkedStore x = new ForkedStore();
        for (int i = 1; i <= 4; i++) {
            x.write(0, i);
            x.sendLetter(0, 1);
        }
        Due.due("loseLetter(1)", x.loseLetter(1), 3);
        Due.due("known of 1", Due.vector(x, 1, 1), "0 0 0");
        x.readLetter(1);
        Due.due("known of 1", Due.vector(x, 1, 1), "2 0 0");
        Due.due("loseLetter(1)", x.loseLetter(1), 1);
        x.readLetter(1);
        Due.due("known of 1", Due.vector(x, 1, 1), "4 0 0");
        for (int alarm = 1; alarm <= 5; alarm++) {
            ForkedStore y = Scenes.alarmed(alarm);
            y.sendLetter(2, 1);
            y.sendLetter(2, 1);
            Due.due("with alarm " + alarm, y.loseLetter(1), 1);
            Due.due("user(1, 1)", y.user(1, 1), alarm);
        }
    }

    private static void whichAlarmsGiveAProof() {
        int[] proofs = {0, 1, 0, 1, 1};
        for (int alarm = 1; alarm <= 5; alarm++) {
            ForkedStore x = Scenes.alarmed(alarm);
            Due.due("user(1, 2) with alarm " + alarm, x.user(1, 2), proofs[alarm - 1]);
            int depth = alarm == 5 ? 1 : 0;
            Due.due("user(1, 7)", x.user(1, 7), proofs[alarm - 1] == 1 ? depth : ForkedStore.NONE);
        }
        ForkedStore x = new ForkedStore();
        x.fork(0, 1);
        x.write(0, 1);
        x.write(2, 1);
        x.sendLetter(0, 1);
        x.readLetter(1);
        Due.due("alarm 3 of incomparable vectors", x.read(1, 1), 3);
        Due.due("user(1, 2)", x.user(1, 2), 1);
        Due.due("the known one first", Due.vector(x, 1, 2), "1 0 0");
        Due.due("then the greatest one", Due.vector(x, 1, 3), "0 0 1");
        Due.due("user(1, 7)", x.user(1, 7), 0);
    }

    /** Entries 0 and 3 are incomparable, and so are 1 and 2: the lower user decides first, then the higher one. */
    private static void theFirstPairIsThatOfTheLowestUsers() {
        ForkedStore x = Due.storeFor(5);
        x.fork(0, 8);
        x.write(3, 1);
        x.write(0, 1);
        x.fork(0, 4);
        x.write(2, 1);
        x.write(1, 1);
        x.mix(0, 2);
        x.mix(0, 1);
        Due.due("entry of 0", Due.entry(x, 0, 0), "1 0 0 0 0");
        Due.due("entry of 1", Due.entry(x, 0, 1), "1 1 0 0 0");
        Due.due("entry of 2", Due.entry(x, 0, 2), "1 0 1 0 0");
        Due.due("entry of 3", Due.entry(x, 0, 3), "0 0 0 1 0");
        Due.due("read(4, 4)", x.read(4, 4), 2);
        Due.due("first", Due.vector(x, 4, 2), "1 0 0 0 0");
        Due.due("second", Due.vector(x, 4, 3), "0 0 0 1 0");
        ForkedStore y = Scenes.apart(4);
        y.mix(0, 3);
        y.mix(0, 2);
        y.mix(0, 1);
        Due.due("read(3, 3)", y.read(3, 3), 2);
        Due.due("first", Due.vector(y, 3, 2), "1 0 0 0");
        Due.due("second", Due.vector(y, 3, 3), "0 1 0 0");
    }

    private static void theFirstProofIsKept() {
        ForkedStore x = Scenes.apart(4);
        x.sendLetter(1, 0);
        x.sendLetter(2, 0);
        Due.due("readLetter(0)", x.readLetter(0), 2);
        Due.due("readLetter(0)", x.readLetter(0), 2);
        Due.due("second", Due.vector(x, 0, 3), "0 1 0 0");
        x.sendLetter(3, 2);
        Due.due("readLetter(2)", x.readLetter(2), 2);
        Due.due("passProof(2, 0)", x.passProof(2, 0), 0);
        Due.due("first", Due.vector(x, 0, 2), "1 0 0 0");
        Due.due("second", Due.vector(x, 0, 3), "0 1 0 0");
        Due.due("user(0, 7)", x.user(0, 7), 0);
        Due.due("passProof(0, 1)", x.passProof(0, 1), 1);
        x.sendLetter(3, 1);
        Due.due("a copy, then a letter", x.readLetter(1), 2);
        Due.due("first", Due.vector(x, 1, 2), "1 0 0 0");
        Due.due("user(1, 7)", x.user(1, 7), 1);
        Due.due("user(1, 1)", x.user(1, 1), 5);
    }

    private static void aProofDoesNotChange() {
        ForkedStore x = Due.storeFor(4);
        x.fork(0, 1);
        x.write(0, 1);
        x.write(1, 1);
        x.sendLetter(0, 1);
        Due.due("readLetter(1)", x.readLetter(1), 2);
        x.passProof(1, 2);
        x.write(3, 1);
        x.sendLetter(3, 1);
        Due.due("known of 1 changes", x.readLetter(1), 1);
        x.write(0, 2);
        x.sendLetter(3, 2);
        x.readLetter(2);
        x.rollBack(0, 2);
        for (int i = 1; i <= 2; i++) {
            Due.due("first of " + i, Due.vector(x, i, 2), "0 1 0 0");
            Due.due("second of " + i, Due.vector(x, i, 3), "1 0 0 0");
        }
        ForkedStore y = Scenes.mixed();
        y.attach(0, 0);
        Due.due("read(0, 0)", y.read(0, 0), 2);
        y.mix(0, 2);
        y.rollBack(1, 1);
        y.mix(1, 0);
        Due.due("first", Due.vector(y, 0, 2), "1 0 0");
        Due.due("second", Due.vector(y, 0, 3), "0 1 0");
    }

    private static void promise14DepthFromUserToUser() {
        ForkedStore x = Due.storeFor(5);
        x.fork(0, 2);
        x.write(0, 1);
        x.write(1, 1);
        x.sendLetter(1, 0);
        Due.due("readLetter(0)", x.readLetter(0), 2);
        Due.due("user(0, 7)", x.user(0, 7), 0);
        for (int i = 1; i < 5; i++) {
            Due.due("user(" + i + ", 7)", x.user(i, 7), ForkedStore.NONE);
            Due.due("passProof", x.passProof(i - 1, i), 1);
            Due.due("user(" + i + ", 1)", x.user(i, 1), 5);
            Due.due("user(" + i + ", 7)", x.user(i, 7), i);
            Due.due("first", Due.vector(x, i, 2), "1 0 0 0 0");
            Due.due("second", Due.vector(x, i, 3), "0 1 0 0 0");
            Due.due("depth of the giver", x.user(i - 1, 7), i - 1);
            Due.due("count(3)", x.count(3), i + 1);
        }
    }

    private static void promise14AnAlarmWithoutAProof() {
        for (int alarm = 1; alarm <= 3; alarm += 2) {
            ForkedStore x = alarmedOfFive(alarm);
            x.sendLetter(4, 3);
            Due.due("readLetter(3)", x.readLetter(3), 2);
            int sent = x.user(3, 6);
            Due.due("passProof(3, 1)", x.passProof(3, 1), 0);
            Due.due("user(1, 1)", x.user(1, 1), alarm);
            Due.due("user(1, 2)", x.user(1, 2), 1);
            Due.due("user(1, 7)", x.user(1, 7), 1);
            Due.due("first", Due.vector(x, 1, 2), Due.vector(x, 3, 2));
            Due.due("second", Due.vector(x, 1, 3), "0 0 0 0 1");
            Due.due("user(3, 6)", x.user(3, 6), sent + 10);
            Due.due("it can be passed on", x.passProof(1, 2), 1);
            Due.due("user(2, 7)", x.user(2, 7), 2);
        }
    }

    private static void promise14AProofThatIsNotNeeded() {
        ForkedStore x = Scenes.apart(3);
        x.sendLetter(1, 0);
        x.sendLetter(0, 1);
        x.readLetter(0);
        x.readLetter(1);
        int sent = x.user(0, 6);
        int received = x.user(1, 6);
        for (int times = 1; times <= 3; times++) {
            Due.due("passProof(0, 1)", x.passProof(0, 1), 0);
            Due.due("user(0, 6)", x.user(0, 6), sent + 6 * times);
            Due.due("user(1, 6)", x.user(1, 6), received);
            Due.due("first", Due.vector(x, 1, 2), "0 1 0");
            Due.due("second", Due.vector(x, 1, 3), "1 0 0");
            Due.due("user(1, 7)", x.user(1, 7), 0);
            Due.due("user(1, 1)", x.user(1, 1), 4);
        }
    }

    private static void promise14BackToTheGiver() {
        ForkedStore x = Scenes.apart(3);
        x.sendLetter(1, 0);
        x.readLetter(0);
        Due.due("passProof(0, 1)", x.passProof(0, 1), 1);
        Due.due("passProof(1, 0)", x.passProof(1, 0), 0);
        Due.due("user(0, 7)", x.user(0, 7), 0);
        Due.due("user(0, 1)", x.user(0, 1), 4);
        Due.due("passProof(1, 2)", x.passProof(1, 2), 1);
        Due.due("passProof(0, 2)", x.passProof(0, 2), 0);
        Due.due("user(2, 7)", x.user(2, 7), 2);
    }

    private static void costsOfLettersAndProofs() {
        for (int u = 2; u <= 5; u++) {
            ForkedStore x = Scenes.apart(u);
            int sent = x.user(0, 6);
            Due.due("sent for a write", sent, u);
            for (int i = 1; i <= 4; i++) {
                x.sendLetter(0, 1);
                Due.due("user(0, 6) with " + i + " letters", x.user(0, 6), sent + i * u);
            }
            x.sendLetter(0, 1);
            x.sendLetter(0, 0);
            x.sendLetter(0, u);
            x.passProof(0, 1);
            Due.due("refused calls cost nothing", x.user(0, 6), sent + 4 * u);
            x.loseLetter(1);
            x.readLetter(1);
            Due.due("reading costs nothing", x.user(1, 6), u);
            Due.due("letters are not shown", x.user(1, 5), u * u);
            x.passProof(1, 0);
            Due.due("a proof", x.user(1, 6), 3 * u);
            x.passProof(1, 0);
            Due.due("a proof that is not needed", x.user(1, 6), 5 * u);
            Due.due("to get one costs nothing", x.user(0, 6), sent + 4 * u);
            x.sendLetter(1, 0);
            Due.due("a letter of a user with an alarm", x.user(1, 6), 6 * u);
        }
    }
}
