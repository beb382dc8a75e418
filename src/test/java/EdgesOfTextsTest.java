/** A test for each sentence on texts (the terms and the promises 8 to 11) that names a boundary case. */
public final class EdgesOfTextsTest {
    /** Eleven askings and three hours: as long as the buffer, and right. */
    private static final String SIXTY = "9@a1;9@b1;9@c1;9@d1;9@e1;9@f1;9@g1;9@h1;9@i1;9@j1;9@k1;h;h;h";

    public static void main(String[] args) {
        atMostSixtyCharacters();
        codesFrom33To126();
        appendReturnsTheNewLength();
        clearBufferReturnsTheLength();
        oneOrMoreAskings();
        digitOfALodger();
        atSign();
        letterOfTheFirstHour();
        digitOfTheHours();
        anHourGoesBy();
        signBehindAnAsking();
        firstSyntaxErrorOnly();
        askingsOfAnyLength();
        lengthIfThereIsNone();
        hoursBeyondTheNightAreNoSyntaxError();
        runDoesOneAfterTheOther();
        refusedOnesAreCountedAndPassedOver();
        runEndsAheadOfTheFirstThatThrows();
        runEndsWhen999NightsEnded();
        runClearsTheBuffer();
        runIsUndoableAsOneCall();
        runThrowsIfTheBufferTellsNoAskings();
        Check.end();
    }

    private static SevenAsks with(String text) {
        SevenAsks x = Check.busy();
        x.clearBuffer();
        Check.append(x, text);
        return x;
    }

    private static void errorDue(String text, int place) {
        SevenAsks x = new SevenAsks();
        Check.append(x, text);
        Check.due("firstError of " + text, x.firstError(), place);
    }

    // ---- promises 8 and 9

    /** "The buffer has at most 60 characters"; "IllegalStateException if the buffer has 60 characters". */
    private static void atMostSixtyCharacters() {
        SevenAsks x = new SevenAsks();
        for (int length = 1; length <= 60; length++) {
            Check.due("the new length", x.append('!'), length);
        }
        String full = "!".repeat(60);
        Check.throwsOnly(() -> with(full), "append(33) to 60", IllegalStateException.class, y -> y.append(33));
        Check.throwsOnly(() -> with(full), "append(126) to 60", IllegalStateException.class, y -> y.append(126));
        Check.throwsOnly(() -> with(full), "append(32) to 60", IllegalArgumentException.class, y -> y.append(32));
        Check.throwsOnly(() -> with(full), "append(127) to 60", IllegalArgumentException.class, y -> y.append(127));
        Check.due("the length", x.clearBuffer(), 60);
        Check.due("one again", x.append('!'), 1);
        Check.due("run of sixty", Check.run(x, SIXTY), 14);
        Check.due("one again", x.append('!'), 1);
    }

    /** "code: the character code, 33 to 126". */
    private static void codesFrom33To126() {
        for (int code = 0; code <= 300; code++) {
            int sign = code;
            if (code >= 33 && code <= 126) {
                Check.due("append(" + code + ")", new SevenAsks().append(code), 1);
            } else {
                Check.throwsOnly(SevenAsks::new, "append(" + code + ")", IllegalArgumentException.class,
                        x -> x.append(sign));
            }
        }
        int[] none = {-1, Integer.MIN_VALUE, Integer.MAX_VALUE, 65536 + 'h', 256 + 'h'};
        for (int code : none) {
            Check.throwsOnly(Check::busy, "append(" + code + ")", IllegalArgumentException.class, x -> x.append(code));
        }
    }

    /** "Returns the new length of the buffer"; not undoable. */
    private static void appendReturnsTheNewLength() {
        SevenAsks x = new SevenAsks();
        Check.due("an empty buffer", x.append(33), 1);
        Check.due("saved states", x.count(11), 0);
        x.clearBuffer();
        Check.due("an empty buffer again", x.append(126), 1);
        Check.due("the next", x.append(126), 2);
    }

    /** "Returns the length that it had": 0, 1 and 60; not undoable. */
    private static void clearBufferReturnsTheLength() {
        SevenAsks x = new SevenAsks();
        Check.due("empty", x.clearBuffer(), 0);
        Check.changesNothing(SevenAsks::new, "clearBuffer of an empty one", y -> y.clearBuffer());
        Check.append(x, "h");
        Check.due("one", x.clearBuffer(), 1);
        Check.append(x, SIXTY);
        Check.due("sixty", x.clearBuffer(), 60);
        Check.due("empty again", x.clearBuffer(), 0);
        Check.due("saved states", x.count(11), 0);
        Check.due("no error", x.firstError(), 0);
    }

    // ---- askings as a text, and promise 10

    /** "Askings as a text are one or more of these with ";" between them": none is not enough. */
    private static void oneOrMoreAskings() {
        runThrows("");
        runThrows(";");
        runThrows("h;");
        runThrows("9@a1;");
        runThrows(";h");
        runThrows("h;;h");
        Check.due("one hour", with("h").run(), 1);
        Check.due("one asking", with("9@l1").run(), 1);
        Check.due("two", with("9@l1;h").run(), 2);
        Check.due("two", with("h;9@l1").run(), 2);
        Check.due("as many as go", Check.run(new SevenAsks(), SIXTY), 14);
    }

    private static void goesOnBehind(String begin, String right) {
        for (int code = 33; code <= 126; code++) {
            errorDue(begin + (char) code, begin.length() + (right.indexOf(code) >= 0 ? 1 : 0));
        }
    }

    /** "the digit of a lodger": "0" to "9", not the characters beside them. */
    private static void digitOfALodger() {
        goesOnBehind("", "0123456789h");
        goesOnBehind("h;", "0123456789h");
        goesOnBehind("0@a1;", "0123456789h");
        for (int lodger = 0; lodger <= 9; lodger++) {
            SevenAsks x = new SevenAsks();
            x.set(0);
            Check.due("lodger " + lodger, Check.run(x, lodger + "@a1"), 1);
            Check.due("the lodger", x.at(0, 0), lodger);
        }
    }

    /** ""@"": nothing else, and not twice. */
    private static void atSign() {
        goesOnBehind("0", "@");
        goesOnBehind("9", "@");
        errorDue("0@@", 2);
    }

    /** "a letter "a" to "l" for the first hour 0 to 11". */
    private static void letterOfTheFirstHour() {
        goesOnBehind("0@", "abcdefghijkl");
        goesOnBehind("9@", "abcdefghijkl");
        for (int first = 0; first <= 11; first++) {
            SevenAsks x = new SevenAsks();
            Check.due("hour " + first, Check.run(x, "9@" + "abcdefghijkl".charAt(first) + "1"), 1);
            Check.due("lent in it", x.at(0, first), 9);
            Check.due("in no other", x.count(2), 1);
        }
    }

    /** "and the digit of how many hours, 1 to 9": not 0. */
    private static void digitOfTheHours() {
        goesOnBehind("0@a", "123456789");
        goesOnBehind("9@l", "123456789");
        for (int hours = 1; hours <= 9; hours++) {
            SevenAsks x = new SevenAsks();
            Check.due(hours + " hours", Check.run(x, "9@a" + hours), 1);
            Check.due("lent", x.count(2), hours);
        }
        runThrows("9@a0");
    }

    /** "or "h" (an hour goes by)": also the last one of the night. */
    private static void anHourGoesBy() {
        errorDue("h", 1);
        errorDue("H", 0);
        SevenAsks x = new SevenAsks();
        x.ask(9, 11, 1);
        Check.due("twelve hours", Check.run(x, "h;h;h;h;h;h;h;h;h;h;h;h"), 12);
        Check.due("nights that ended", x.count(1), 1);
        Check.due("slept", x.count(3), 1);
        Check.due("hours do not count as askings", x.count(4), 1);
        Check.due("the hour with the letter h", Check.run(x, "9@h1"), 1);
        Check.due("is hour 7", x.at(0, 7), 9);
        Check.due("no hour went by", x.count(0), 0);
    }

    /** "with ";" between them": behind an asking or an hour nothing else stands. */
    private static void signBehindAnAsking() {
        goesOnBehind("h", ";");
        goesOnBehind("9@a1", ";");
        goesOnBehind("h;h", ";");
    }

    /** "Returns the index of the first character that is a syntax error": the first of several; the last place. */
    private static void firstSyntaxErrorOnly() {
        errorDue("!", 0);
        errorDue("!!!", 0);
        errorDue("h!h!", 1);
        errorDue("0@a1;0@a1!9", 9);
        errorDue(SIXTY.substring(0, 59) + "!", 59);
        errorDue("!" + SIXTY.substring(1), 0);
    }

    /** "if no askings as a text, of any length, begin with": what ends in the 60th character could go on. */
    private static void askingsOfAnyLength() {
        errorDue("h;".repeat(30), 60);
        errorDue("0@a1;".repeat(12), 60);
        errorDue("h;h;0@a1;".repeat(6) + "h;h;0@", 60);
        errorDue("h;" + "0@a1;".repeat(11) + "0@a", 60);
        errorDue("h;".repeat(3) + "0@a1;".repeat(10) + "h;h;", 60);
    }

    /** "the length of the buffer if there is none". */
    private static void lengthIfThereIsNone() {
        errorDue("", 0);
        String[] begin = {"0", "0@", "0@a", "0@a1", "0@a1;", "h", "h;"};
        for (String text : begin) {
            errorDue(text, text.length());
        }
        errorDue(SIXTY, 60);
        Check.changesNothing(Check::busy, "firstError", x -> x.firstError());
        Check.changesNothing(() -> with("9!"), "firstError", x -> x.firstError());
    }

    /** "(Hours beyond the night are no syntax error.)" */
    private static void hoursBeyondTheNightAreNoSyntaxError() {
        errorDue("9@l9", 4);
        errorDue("9@l2", 4);
        errorDue("9@e9;h", 6);
        Check.due("run takes it", with("9@l2").run(), 0);
    }

    // ---- promise 11

    /** "Does what the buffer tells as ask() and pass() do, one after the other". */
    private static void runDoesOneAfterTheOther() {
        SevenAsks x = new SevenAsks();
        SevenAsks y = new SevenAsks();
        Check.refuse(x, 0, 6);
        Check.refuse(y, 0, 6);
        Check.due("done", Check.run(x, "5@a3;6@a3;h;7@b2;8@b2;0@b1;0@b1;5@b1;h;9@c1"), 8);
        y.ask(5, 0, 3);
        y.ask(6, 0, 3);
        y.pass();
        y.ask(7, 1, 2);
        y.ask(8, 1, 2);
        Check.due("the seventh refusal", y.ask(0, 1, 1), 3);
        Check.due("the eighth asking", y.ask(0, 1, 1), 10);
        Check.due("put out of it", y.ask(5, 1, 1), 4);
        y.pass();
        y.ask(9, 2, 1);
        for (int i = 0; i < 6; i++) {
            x.set(3);
            y.set(3);
        }
        Check.due("the same", x.digest(), y.digest());
    }

    /** "askings that are refused are counted so, and passed over"; "(an asking that is refused is not)". */
    private static void refusedOnesAreCountedAndPassedOver() {
        SevenAsks x = new SevenAsks();
        Check.due("all are refused", Check.run(x, "0@a1;1@a1;2@a1"), 0);
        Check.due("refused", x.count(5), 3);
        Check.due("refusals", x.lodgerOf(2, 1), 1);
        Check.due("done", Check.run(x, "0@a1;9@a1;9@a1;h;8@a1;8@b1"), 3);
        Check.due("for 1", x.refused(1), 1);
        Check.due("for 2", x.refused(2), 1);
        Check.due("for 3", x.refused(3), 4);
        Check.due("the eighth asking alone", Check.run(x, "1@l1;1@l1;1@l1;1@l1;1@l1;1@l1;1@l1;1@k1"), 1);
    }

    /** "it ends ahead of the first one whose method would throw an exception": the hours go beyond the night. */
    private static void runEndsAheadOfTheFirstThatThrows() {
        for (int first = 0; first <= 11; first++) {
            for (int hours = 1; hours <= 9; hours++) {
                SevenAsks x = new SevenAsks();
                String item = "9@" + (char) ('a' + first) + hours;
                boolean right = first + hours <= 12;
                Check.due("h;" + item + ";h", Check.run(x, "h;" + item + ";h"), !right ? 1 : first == 0 ? 2 : 3);
                Check.due("hours that went by", x.count(0), right ? 2 : 1);
                Check.due("askings refused", x.count(5), first == 0 ? 1 : 0);
            }
        }
        SevenAsks y = new SevenAsks();
        Check.due("the very first one", Check.run(y, "0@l2;9@a1"), 0);
        Check.due("nothing is counted", y.count(5), 0);
        Check.due("no refusal", y.lodgerOf(0, 1), 0);
        Check.due("a refused one ahead of it", Check.run(y, "0@l1;0@l2;0@l1"), 0);
        Check.due("is counted", y.count(5), 1);
    }

    private static SevenAsks beforeTheLastHour() {
        SevenAsks x = new SevenAsks();
        Check.pass(x, 999 * 12 - 1);
        return x;
    }

    /** Of pass(): "IllegalStateException if 999 nights ended"; it can't be seen within 512 calls. */
    private static void runEndsWhen999NightsEnded() {
        SevenAsks x = beforeTheLastHour();
        Check.due("the last hour, and an asking", Check.run(x, "h;9@a1;h;8@a1"), 2);
        Check.due("nights that ended", x.count(1), 999);
        Check.due("no hour more", Check.run(x, "h"), 0);
        Check.due("an asking", Check.run(x, "8@a1;h;h"), 1);
        Check.undoable(() -> beforeTheLastHour(), "run", y -> Check.due("one", Check.run(y, "h;h"), 1));
    }

    /** "and clears the buffer": also if it ended early, or all was refused. */
    private static void runClearsTheBuffer() {
        String[] texts = {"h", "9@l2;h", "1@c1", SIXTY};
        for (String text : texts) {
            SevenAsks x = with(text);
            x.run();
            Check.due("no error", x.firstError(), 0);
            Check.due("the length behind " + text, x.clearBuffer(), 0);
        }
    }

    /** "Undoable, as one call, also if nothing is done." */
    private static void runIsUndoableAsOneCall() {
        String[] texts = {"h", "9@l2;h", "1@c1", "0@c9;h;5@d4;9@l2", SIXTY};
        for (String text : texts) {
            Check.undoable(() -> with(text), "run of " + text, x -> x.run());
        }
        SevenAsks x = new SevenAsks();
        Check.run(x, "h;h;h;h;h;h;h;h;h");
        Check.due("one state", x.count(11), 1);
        Check.run(x, "9@a2;8@l2");
        Check.due("two states", x.count(11), 2);
        Check.due("undone", x.undo(), 1);
        Check.due("the buffer is not brought back", x.clearBuffer(), 0);
    }

    private static void runThrows(String text) {
        Check.throwsOnly(() -> with(text), "run of " + text, IllegalArgumentException.class, x -> x.run());
    }

    /** "IllegalArgumentException if the buffer does not tell askings as a text": an error, or no end. */
    private static void runThrowsIfTheBufferTellsNoAskings() {
        String[] texts = {"", "0", "0@", "0@a", "0@a1;", "h;", "!", "hh", "h;!", "9@a1;9@a1x", "9@a1x;9@a1", "9@m1",
            ":@a1", "/@a1", "9@`1", "9@a:", SIXTY.substring(0, 59) + ";", "h;".repeat(30), "9@a1!"};
        for (String text : texts) {
            runThrows(text);
        }
    }
}
