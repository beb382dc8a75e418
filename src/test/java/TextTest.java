/** Promises 8 to 11: append, clearBuffer, firstError, run. */
public final class TextTest {
    public static void main(String[] args) {
        append();
        clearBuffer();
        errorsByPlace();
        everySignAtEveryPlace();
        run();
        runEndsAheadOfAnException();
        runIsUndoneAsOneCall();
        runOfWrongTexts();
        Check.end();
    }

    private static void append() {
        SevenAsks x = new SevenAsks();
        Check.due("the least code", x.append(33), 1);
        Check.due("the greatest code", x.append(126), 2);
        Check.thrown(x, "append(32)", IllegalArgumentException.class, () -> x.append(32));
        Check.thrown(x, "append(127)", IllegalArgumentException.class, () -> x.append(127));
        Check.thrown(x, "append(-1)", IllegalArgumentException.class, () -> x.append(-1));
        for (int length = 3; length <= 60; length++) {
            Check.due("length", x.append('h'), length);
        }
        Check.thrown(x, "append(104)", IllegalStateException.class, () -> x.append(104));
        Check.thrown(x, "append(300)", IllegalArgumentException.class, () -> x.append(300));
        Check.due("saved states", x.count(11), 0);
        Check.due("length", x.clearBuffer(), 60);
    }

    private static void clearBuffer() {
        SevenAsks x = new SevenAsks();
        Check.append(x, "0@a1");
        Check.due("length", x.clearBuffer(), 4);
        Check.due("length", x.clearBuffer(), 0);
        Check.due("saved states", x.count(11), 0);
        Check.due("as new", x.digest(), new SevenAsks().digest());
    }

    private static void errorDue(String text, int place) {
        SevenAsks x = new SevenAsks();
        Check.append(x, text);
        Check.due("firstError of " + text, x.firstError(), place);
        Check.unchanged(x, "firstError", () -> x.firstError());
    }

    private static void errorsByPlace() {
        errorDue("", 0);
        errorDue("0", 1);
        errorDue("0@", 2);
        errorDue("0@a", 3);
        errorDue("0@a1", 4);
        errorDue("0@a1;", 5);
        errorDue("h;h", 3);
        errorDue("h;", 2);
        errorDue("9@l9;h;0@a1", 11);
        errorDue("@", 0);
        errorDue(";", 0);
        errorDue("a", 0);
        errorDue("hh", 1);
        errorDue("h0", 1);
        errorDue("h;;", 2);
        errorDue("0a", 1);
        errorDue("0@m1", 2);
        errorDue("0@A1", 2);
        errorDue("0@a0", 3);
        errorDue("0@a12", 4);
        errorDue("0@a1h", 4);
        errorDue("h;h@", 3);
        errorDue("12", 1);
        errorDue("0@h1", 4);
    }

    /** Each code is tried behind each beginning; only those that the document tells go on. */
    private static void everySignAtEveryPlace() {
        String[] begin = {"", "4", "4@", "4@c", "4@c2", "h", "h;"};
        String[] goOn = {"0123456789h", "@", "abcdefghijkl", "123456789", ";", ";", "0123456789h"};
        for (int i = 0; i < begin.length; i++) {
            for (int code = 33; code <= 126; code++) {
                boolean right = goOn[i].indexOf(code) >= 0;
                errorDue(begin[i] + (char) code, begin[i].length() + (right ? 1 : 0));
            }
        }
    }

    private static void run() {
        SevenAsks x = new SevenAsks();
        Check.due("done", Check.run(x, "3@a3;0@a1;4@b9;h;4@j2;3@a1;5@l1"), 4);
        Check.bedDue(x, 0, "333........5");
        Check.bedDue(x, 1, ".444444444..");
        Check.due("hours that went by", x.count(0), 1);
        Check.due("askings done", x.count(4), 3);
        Check.due("askings refused", x.count(5), 3);
        Check.due("for 1", x.refused(1), 1);
        Check.due("for 2", x.refused(2), 1);
        Check.due("for 3", x.refused(3), 1);
        Check.due("refusals", x.lodgerOf(0, 1), 1);
        Check.due("the buffer is clear", x.clearBuffer(), 0);
        Check.due("all refused", Check.run(x, "0@l1;0@l1"), 0);
        Check.due("saved states", x.count(11), 2);
        Check.due("thirty hours", Check.run(x, "h" + ";h".repeat(29)), 30);
        Check.due("nights that ended", x.count(1), 2);
        Check.due("hours that went by", x.count(0), 7);
    }

    private static void runEndsAheadOfAnException() {
        SevenAsks x = new SevenAsks();
        Check.due("done", Check.run(x, "9@a1;9@l2;9@c1"), 1);
        Check.bedDue(x, 0, "9...........");
        Check.due("nothing is refused", x.count(5), 0);
        Check.due("the buffer is clear", x.clearBuffer(), 0);
        Check.due("none is done", Check.run(x, "9@e9;h"), 0);
        Check.due("no hour went by", x.count(0), 0);
        Check.due("saved states", x.count(11), 2);
        Check.due("up to the last hour", Check.run(x, "8@d9"), 1);
    }

    private static void runIsUndoneAsOneCall() {
        SevenAsks x = new SevenAsks();
        x.ask(9, 0, 1);
        long before = x.digest();
        Check.run(x, "8@a2;h;7@c3;0@l1");
        Check.append(x, "h;");
        Check.due("states left", x.undo(), 1);
        Check.due("the buffer stays", x.clearBuffer(), 2);
        Check.due("as before", x.digest(), before);
        Check.run(x, "9@e9");
        Check.due("undoable, though nothing is done", x.undo(), 1);
    }

    private static void runOfWrongTexts() {
        String[] texts = {"", "0", "0@", "0@a", "0@a1;", "h;", ";", "hh", "0@a0", "9@a1;9@a1x", "9@a1;h;;h"};
        for (String text : texts) {
            SevenAsks x = new SevenAsks();
            Check.append(x, text);
            Check.thrown(x, "run of " + text, IllegalArgumentException.class, () -> x.run());
            Check.due("saved states", x.count(11), 0);
            Check.due("the buffer stays", x.clearBuffer(), text.length());
        }
    }
}
