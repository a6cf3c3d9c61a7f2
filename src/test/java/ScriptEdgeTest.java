/** The boundaries of the text: what the document says of it, and promises 25 to 27. */
public final class ScriptEdgeTest {
    private static final String LETTERS = "wrsgm";
    private static final String DIGITS = "0123456789";
    /** The characters beside those that are allowed, and some far away. */
    private static final int[] SOME_CHARACTERS = {
        0, 1, 9, 10, 13, 32, 45, 47, 58, 102, 104, 108, 110, 113, 116, 118, 120, 126, 127, 128, 255, 256,
        'W', 'R', 'S', 'G', 'M', 'x', 'y', 256 + 'w', 256 + '0', 0x0660, 0xff10, 0x7fff, 0x8000, 0xffff,
    };

    private ScriptEdgeTest() {
    }

    public static void main(String[] args) {
        promise25AtMostSixtyCharacters();
        promise25AnyCharacter();
        promise26EachLength();
        promise27TheEmptyText();
        promise27WhichLettersAreAllowed();
        promise27WhichDigitsAreAllowed();
        promise27AFaultInEachPlace();
        promise27EndsWithinACommand();
        promise27TheFirstFaultOfSeveral();
        promise27NothingIsCarriedOut();
        promise27ZeroToTwentyCommands();
        promise27EachCommandCanBeTheLast();
        promise27EachAlarmIsNoError();
        promise27UsersAndViewsOfEachDigit();
        promise27WritesEachDigit();
        promise27ReadsEachNumberOfLetters();
        promise27WhatWasReadBeforeStays();
        promise27ResultsOfReadingAreNoErrors();
        promise27NoLettersIfThereIsThisUser();
        promise27TheTextStays();
        Due.finish();
    }

    private static int run(ForkedStore x, String text) {
        x.clearText();
        Due.typeAll(x, text);
        return x.run();
    }

    private static String times(String text, int count) {
        StringBuilder told = new StringBuilder();
        for (int i = 0; i < count; i++) {
            told.append(text);
        }
        return told.toString();
    }

    private static void promise25AtMostSixtyCharacters() {
        ForkedStore x = new ForkedStore();
        for (int length = 1; length <= 60; length++) {
            Due.due("type", x.type("w01".charAt((length - 1) % 3)), length);
        }
        for (int i = 0; i < 3; i++) {
            Due.due("a character too many", x.type('r'), ForkedStore.FULL);
        }
        Due.due("run()", x.run(), 20);
        Due.due("clearText()", x.clearText(), 60);
        Due.due("there is room again", x.type('w'), 1);
        Due.due("clearText()", x.clearText(), 1);
    }

    private static void promise25AnyCharacter() {
        ForkedStore x = new ForkedStore();
        for (int i = 0; i < SOME_CHARACTERS.length; i++) {
            Due.due("type(" + SOME_CHARACTERS[i] + ")", x.type((char) SOME_CHARACTERS[i]), i + 1);
        }
        Due.due("clearText()", x.clearText(), SOME_CHARACTERS.length);
    }

    private static void promise26EachLength() {
        for (int length = 0; length <= 60; length++) {
            ForkedStore x = new ForkedStore();
            Due.typeAll(x, times("w", length));
            Due.due("clearText()", x.clearText(), length);
            Due.due("clearText() again", x.clearText(), 0);
            Due.due("run()", x.run(), 0);
            Due.due("type('w')", x.type('w'), 1);
            Due.due("nothing of the old text is left", x.run(), -101);
        }
    }

    private static void promise27TheEmptyText() {
        ForkedStore x = Scenes.rich();
        String before = Due.picture(x);
        x.clearText();
        Due.due("run()", x.run(), 0);
        Due.due("behind it", Due.picture(x), before);
    }

    /** Every character there is, as the first one of a command. */
    private static void promise27WhichLettersAreAllowed() {
        ForkedStore x = null;
        for (int character = 0; character <= 0xffff; character++) {
            if (character % 100 == 0) {
                x = new ForkedStore();
            }
            x.clearText();
            x.type((char) character);
            int due = LETTERS.indexOf((char) character) >= 0 ? -101 : -100;
            Due.due("run() of character " + character, x.run(), due);
        }
    }

    /** Every character there is, as the second and as the third one of a command. */
    private static void promise27WhichDigitsAreAllowed() {
        ForkedStore x = null;
        for (int character = 0; character <= 0xffff; character++) {
            if (character % 50 == 0) {
                x = new ForkedStore();
            }
            boolean isDigit = DIGITS.indexOf((char) character) >= 0;
            x.clearText();
            x.type('r');
            x.type((char) character);
            Due.due("run() with " + character + " as x", x.run(), isDigit ? -102 : -101);
            x.clearText();
            x.type('g');
            x.type('0');
            x.type((char) character);
            int due = character == '0' ? 1 : 0;
            Due.due("run() with " + character + " as y", x.run(), isDigit ? due : -102);
        }
    }

    private static void promise27AFaultInEachPlace() {
        String text = times("w07", 20);
        for (int place = 0; place < 60; place++) {
            char wrong = place % 3 == 0 ? '0' : 'w';
            ForkedStore x = new ForkedStore();
            int due = -100 - place;
            Due.due("a fault at " + place, run(x, text.substring(0, place) + wrong + text.substring(place + 1)), due);
            Due.due("count(4)", x.count(4), 0);
            Due.due("a fault at the end " + place, run(x, text.substring(0, place) + wrong), due);
            Due.due("count(4)", x.count(4), 0);
        }
    }

    private static void promise27EndsWithinACommand() {
        String text = times("w07", 20);
        for (int length = 0; length <= 60; length++) {
            ForkedStore x = new ForkedStore();
            int due = length % 3 == 0 ? length / 3 : -100 - length;
            Due.due("run() of " + length + " characters", run(x, text.substring(0, length)), due);
            Due.due("count(4)", x.count(4), length % 3 == 0 ? length / 3 : 0);
        }
    }

    private static void promise27TheFirstFaultOfSeveral() {
        ForkedStore x = new ForkedStore();
        Due.due("two faults", run(x, "w0?w?0"), -102);
        Due.due("two faults", run(x, "?0?"), -100);
        Due.due("a fault, then cut short", run(x, "w01r?"), -104);
        Due.due("a fault in the last character, and cut short", run(x, "w01?"), -103);
        Due.due("cut short behind an error", run(x, "w91r"), -104);
        Due.due("a fault behind an error", run(x, "w91?01"), -103);
        Due.due("a letter at the place of a digit", run(x, "ww0"), -101);
        Due.due("a digit at the place of a letter", run(x, "001"), -100);
        Due.due("count(4)", x.count(4), 0);
    }

    private static void promise27NothingIsCarriedOut() {
        String[] texts = {"w29s21g22m21?", "w29s21g22m21w", "w29s21g22m21w2", "w29s21g22m2w", "w29s21g22m-1"};
        int[] faults = {12, 13, 14, 11, 10};
        for (int i = 0; i < texts.length; i++) {
            ForkedStore x = Scenes.rich();
            Due.due("run() of " + texts[i], run(x, texts[i]), -100 - faults[i]);
            Due.due("behind it", Due.picture(x), Due.picture(Scenes.rich()));
        }
    }

    private static void promise27ZeroToTwentyCommands() {
        for (int commands = 0; commands <= 20; commands++) {
            ForkedStore x = new ForkedStore();
            Due.due("run()", run(x, times("r12", commands)), commands);
            Due.due("count(4)", x.count(4), commands);
            Due.due("user(1, 4)", x.user(1, 4), commands);
            for (int errorAt = 0; errorAt < commands; errorAt++) {
                ForkedStore y = new ForkedStore();
                String text = times("r12", errorAt) + "w99" + times("r12", commands - errorAt - 1);
                Due.due("run() with an error at " + errorAt, run(y, text), errorAt);
                Due.due("count(4)", y.count(4), errorAt);
            }
        }
    }

    /** Each error of each command ends the run; it has no effect, and nor has what stands behind it. */
    private static void promise27EachCommandCanBeTheLast() {
        String[] refused = {
            "w30", "w10", "r30", "r03", "r10", "s30", "s03", "s00", "s02", "g30", "g39", "g01", "m30", "m02", "m32",
        };
        for (String command : refused) {
            ForkedStore x = Scenes.alarmed(1);
            x.fork(0, 1);
            Due.typeAll(x, times("s12", 4));
            x.run();
            String before = Due.picture(x);
            Due.due("run() with " + command, run(x, "g00" + command + "w05s01m01"), 1);
            Due.due("behind " + command, Due.picture(x), before);
        }
    }

    private static void promise27EachAlarmIsNoError() {
        ForkedStore x = new ForkedStore();
        x.write(1, 1);
        x.rollBack(0, 1);
        Due.due("alarm 1", run(x, "w15w05"), 2);
        Due.due("user(1, 1)", x.user(1, 1), 1);
        x = new ForkedStore();
        x.fork(0, 1);
        x.write(0, 1);
        x.write(2, 1);
        x.mix(0, 1);
        Due.due("alarm 2", run(x, "r10w15"), 1);
        Due.due("user(1, 1)", x.user(1, 1), 2);
        x = new ForkedStore();
        x.fork(0, 1);
        Due.due("alarm 3", run(x, "w01s01g11r10w29r10"), 5);
        Due.due("user(1, 1)", x.user(1, 1), 3);
        Due.due("content(0, 2)", x.content(0, 2), 9);
        x = new ForkedStore();
        x.fork(0, 1);
        Due.due("alarm 4", run(x, "w01w11s01g11w29w12"), 5);
        Due.due("user(1, 1)", x.user(1, 1), 4);
        Due.due("content(0, 1)", x.content(0, 1), 1);
    }

    private static void promise27UsersAndViewsOfEachDigit() {
        for (int u = 2; u <= 5; u++) {
            for (int digit = 0; digit <= 9; digit++) {
                ForkedStore x = Due.storeFor(u);
                x.fork(0, 1);
                x.fork(1, 1);
                boolean isUser = digit < u;
                Due.due("w" + digit + "1", run(x, "w" + digit + "1"), isUser ? 1 : 0);
                Due.due("r" + digit + "1", run(x, "r" + digit + "1"), isUser ? 1 : 0);
                Due.due("r1" + digit, run(x, "r1" + digit), isUser ? 1 : 0);
                Due.due("s" + digit + "0", run(x, "s" + digit + "0"), isUser && digit != 0 ? 1 : 0);
                Due.due("s1" + digit, run(x, "s1" + digit), isUser && digit != 1 ? 1 : 0);
                Due.due("g" + digit + "0", run(x, "g" + digit + "0"), isUser ? 1 : 0);
                Due.due("m" + digit + "0", run(x, "m" + digit + "0"), isUser ? 1 : 0);
                Due.due("m1" + digit, run(x, "m1" + digit), digit < 3 ? 1 : 0);
            }
        }
        ForkedStore x = new ForkedStore();
        for (int i = 0; i < 5; i++) {
            x.fork(i, 1);
        }
        Due.due("m15 of six views", run(x, "m15"), 1);
        Due.due("user(1, 0)", x.user(1, 0), 5);
        Due.due("m16 of six views", run(x, "m16"), 0);
    }

    private static void promise27WritesEachDigit() {
        for (int digit = 0; digit <= 9; digit++) {
            ForkedStore x = new ForkedStore();
            x.write(1, 77);
            Due.due("run()", run(x, "w1" + digit), 1);
            Due.due("content(0, 1)", x.content(0, 1), digit);
        }
    }

    private static void promise27ReadsEachNumberOfLetters() {
        for (int letters = 0; letters <= 4; letters++) {
            for (int read = 0; read <= 9; read++) {
                ForkedStore x = new ForkedStore();
                for (int i = 1; i <= letters; i++) {
                    x.write(0, i);
                    x.sendLetter(0, 1);
                }
                boolean isFine = read <= letters;
                int taken = Math.min(read, letters);
                Due.due("g1" + read + " with " + letters + " letters", run(x, "g1" + read + "w29"), isFine ? 2 : 0);
                Due.due("user(1, 3)", x.user(1, 3), letters - taken);
                Due.due("known of 1", Due.vector(x, 1, 1), taken + " 0 0");
                Due.due("content(0, 2)", x.content(0, 2), isFine ? 9 : 0);
            }
        }
    }

    private static void promise27WhatWasReadBeforeStays() {
        ForkedStore x = Scenes.apart(3);
        x.sendLetter(0, 1);
        x.sendLetter(2, 1);
        Due.due("run()", run(x, "g13w11"), 0);
        Due.due("user(1, 3)", x.user(1, 3), 0);
        Due.due("user(1, 1)", x.user(1, 1), 4);
        Due.due("second", Due.vector(x, 1, 3), "1 0 0");
    }

    private static void promise27ResultsOfReadingAreNoErrors() {
        ForkedStore x = Due.storeFor(4);
        x.fork(0, 8);
        x.write(0, 1);
        x.write(3, 1);
        x.sendLetter(2, 1);
        x.sendLetter(0, 1);
        x.sendLetter(3, 1);
        x.sendLetter(0, 1);
        Due.due("results 0, 1, 2 and 0", run(x, "g14w21"), 2);
        Due.due("user(1, 3)", x.user(1, 3), 0);
        Due.due("user(1, 1)", x.user(1, 1), 4);
        Due.due("content(0, 2)", x.content(0, 2), 1);
    }

    private static void promise27NoLettersIfThereIsThisUser() {
        for (int u = 2; u <= 5; u++) {
            for (int digit = 0; digit <= 9; digit++) {
                ForkedStore x = Due.storeFor(u);
                ForkedStore y = Due.storeFor(u);
                x.sendLetter(0, 1);
                y.sendLetter(0, 1);
                Due.due("g" + digit + "0g00", run(x, "g" + digit + "0g00"), digit < u ? 2 : 0);
                Due.due("behind it", Due.picture(x), Due.picture(y));
            }
        }
        for (int alarm = 1; alarm <= 5; alarm++) {
            Due.due("with alarm " + alarm, run(Scenes.alarmed(alarm), "g10"), 1);
        }
    }

    private static void promise27TheTextStays() {
        for (String text : new String[] {"", "w01", "w01w99w02", "w0", "w0?", times("r01", 20)}) {
            ForkedStore x = new ForkedStore();
            int first = run(x, text);
            Due.due("run() again of " + text, x.run(), first);
            Due.due("clearText()", x.clearText(), text.length());
        }
    }
}
