/** Promises 10 to 13: the buffer, its first error, and the orders in it. */
final class TextsCases extends Cases {
    /** 60 characters, 20 orders, no error. */
    private static final String LONGEST = "+1;-0;+1;-0;+1;-0;+1;-0;+1;-0;+1;-0;+1;-0;+1;-0;+1;-0;+10;-0";

    private TextsCases() {
    }

    private static TailBlocks fullBuffer() {
        return typed(LONGEST);
    }

    // ---- promise 10

    static void appendCodes() {
        says(10, "code: the character code, 33 to 126");
        due("the lowest", 1, new TailBlocks().append(33));
        due("the highest", 1, new TailBlocks().append(126));
        says(10, "Throws IllegalArgumentException if code is not 33 to 126");
        thrown("code", ARGUMENT, TailBlocks::new, (x, code) -> x.append(code), -1, 0, 10, 32, 127, 256 + 43, MIN, MAX);
        thrown("code", ARGUMENT, Cases::busy, (x, code) -> x.append(code), -1, 32, 127, 65536 + 43, MIN, MAX);
    }

    static void appendToAFullBuffer() {
        says(TERMS, "The buffer has at most 60 characters.");
        TailBlocks x = new TailBlocks();
        for (int length = 1; length <= 60; length++) {
            due("length", length, x.append('+'));
        }
        says(10, "Throws IllegalStateException if the buffer has 60 characters");
        thrown("the 61st, code", STATE, TextsCases::fullBuffer, (y, code) -> y.append(code), 33, 43, 59, 126);
        thrown("also with a syntax error in it, code", STATE, () -> typed(LONGEST.replace('+', '!')),
            (y, code) -> y.append(code), 33, 126);
        says(TERMS, "If several exceptions apply, the one that is named first in the throws clause is thrown.");
        thrown("code, the buffer full,", ARGUMENT, TextsCases::fullBuffer, (y, code) -> y.append(code), 32, 127, MIN,
            MAX);
        due("the 60th is allowed", 60, typed(LONGEST.substring(1)).append('+'));
    }

    static void appendTellsTheLength() {
        says(10, "Returns the new length of the buffer.");
        due("the first", 1, new TailBlocks().append('a'));
        due("once it was cleared", 1, cleared(fullBuffer()).append('a'));
        due("once it was run", 1, run(fullBuffer()).append('a'));
        says(10, "int append(int code) throws IllegalArgumentException, IllegalStateException:"
            + " Appends a character to the buffer.");
        TailBlocks x = new TailBlocks();
        x.append('+');
        x.append('9');
        x.run();
        due("both of them, in order", 9, x.fileOf(0, 0));
        TailBlocks y = new TailBlocks();
        y.append('+');
        due("it saves no state", 0, y.count(11));
    }

    private static TailBlocks cleared(TailBlocks x) {
        x.clearBuffer();
        return x;
    }

    private static TailBlocks run(TailBlocks x) {
        x.run();
        return x;
    }

    // ---- promise 11

    static void clearBuffer() {
        says(11, "Returns the length that it had.");
        due("empty", 0, new TailBlocks().clearBuffer());
        due("one character", 1, typed("+").clearBuffer());
        due("a full one", 60, fullBuffer().clearBuffer());
        due("once it was cleared", 0, cleared(fullBuffer()).clearBuffer());
        due("with a syntax error", 3, typed("+!!").clearBuffer());
        says(11, "int clearBuffer(): Clears the buffer.");
        due("no error is left", 0, cleared(typed("!")).firstError());
        thrown("no orders are left", ARGUMENT, () -> cleared(typed("+1")), x -> x.run());
        unchanged("an empty one", 0, () -> cleared(busy()), x -> x.clearBuffer());
        TailBlocks x = ran("+5");
        type(x, "+7");
        x.clearBuffer();
        due("it saves no state", 1, x.count(11));
        x.undo();
        due("and is not undone", 0, x.clearBuffer());
    }

    // ---- promise 12

    private static void error(int want, String text) {
        unchanged("'" + text + "'", want, () -> typed(text), x -> x.firstError());
    }

    /** No syntax error, neither alone nor behind another order. */
    private static void begun(String... texts) {
        for (String text : texts) {
            error(text.length(), text);
            error(text.length() + 4, "+10;" + text);
        }
    }

    /** The last character is a syntax error, alone and behind another order, whatever follows. */
    private static void lastWrong(String... texts) {
        for (String text : texts) {
            error(text.length() - 1, text);
            error(text.length() + 2, "-0;" + text + ";!");
            error(text.length() + 2, "+1;" + text);
        }
    }

    static void errorNowhere() {
        says(12, "the length of the buffer if there is none");
        error(0, "");
        error(60, LONGEST);
        error(60, "+1;-0;+1;-0;+1;-0;+1;-0;+1;-0;+1;-0;+1;-0;+1;-0;+1;-0;+1;-0;");
        error(60, "+1;-0;+1;-0;+1;-0;+1;-0;+1;-0;+1;-0;+1;-0;+1;-0;+1;-0;+1;>0:");
        due("of an object that did all", 5, busy().firstError());
        says(12, "int firstError(): Finds the first syntax error of the buffer.");
        due("it saves no state", 1, counted(ran("+1")));
    }

    private static int counted(TailBlocks x) {
        x.firstError();
        return x.count(11);
    }

    static void errorFirstOrLast() {
        says(12, "Returns the index of the first character that is a syntax error");
        error(0, "!");
        error(0, "!!");
        error(0, ";+1");
        error(59, LONGEST.substring(0, 59) + ";");
        error(59, LONGEST.substring(0, 58) + "-:");
        error(1, "+!!+1");
        error(2, "+1!+1!");
    }

    static void errorAgainstTheSigns() {
        says(TERMS, "Files as a text are one or more of these with \";\" between them");
        begun("+", ">", "<", "-", "+1;", "-1;", ">1:1;", "<1:1;", "+1;+");
        lastWrong("0", "9", ":", ";", "a", "!", "~", "*", ",", ".", "/", "=", "?");
        lastWrong("+1;;", "-1;;", ">1:1;;", "+1;0", "-1+", "-1>", "-1-", ">1:1>", ">1:1+", "<1:1<", "+1+", "+1-");
    }

    static void errorAgainstSizes() {
        says(TERMS, "\"+\" and a size, 0 to 200 (a file comes)");
        begun("+0", "+1", "+2", "+9", "+10", "+19", "+20", "+21", "+99", "+100", "+199", "+200", "+0;", "+200;");
        lastWrong("+201", "+209", "+210", "+220", "+300", "+999", "+1000", "+1999", "+2000");
        lastWrong("++", "+-", "+:", "+;", "+/", "+a", "+1:", "+1/", "+20:", "+200:");
    }

    static void errorAgainstGrowing() {
        says(TERMS, "\">\", the digit of a file, \":\", and cells, 1 to 200 (it grows)");
        begun(">0", ">9", ">0:", ">9:", ">0:1", ">0:9", ">0:10", ">0:20", ">0:199", ">0:200", ">9:200;");
        lastWrong(">0:0", ">0:201", ">0:210", ">0:300", ">0:1000", ">0:2000");
        lastWrong(">:", ">/", ">a", ">>", ">-", ">;", ">00", ">10", ">0;", ">0/", ">0:;", ">0::", ">0:-", ">0:+");
    }

    static void errorAgainstCutting() {
        says(TERMS, "\"<\", the digit of a file, \":\", and cells, 1 to 200 (it is cut)");
        begun("<0", "<9", "<0:", "<9:", "<0:1", "<0:9", "<0:10", "<0:20", "<0:199", "<0:200", "<9:200;");
        lastWrong("<0:0", "<0:201", "<0:210", "<0:300", "<0:1000", "<0:2000");
        lastWrong("<:", "</", "<a", "<<", "<-", "<;", "<00", "<10", "<0;", "<0/", "<0:;", "<0::", "<0:-", "<0:+");
    }

    static void errorAgainstDeleting() {
        says(TERMS, "or \"-\" and the digit of a file (it is deleted)");
        begun("-0", "-9", "-0;", "-9;");
        lastWrong("-:", "-/", "-a", "--", "-;", "-00", "-10", "-0:", "-0-");
    }

    static void errorByALeadingZero() {
        says(TERMS, "Numbers are without leading zeros.");
        lastWrong("+00", "+01", "+09", ">0:0", "<0:0");
        begun("+0;+0", "+10", "+100", ">0:100", "<0:100");
        for (String text : new String[] {"+00", "+01", "+000", "+0200", ">0:01", "<0:01"}) {
            thrown("orders " + text, ARGUMENT, () -> typed(text), x -> x.run());
        }
    }

    static void errorOfTextsOfAnyLength() {
        says(TERMS, "The buffer is read from left to right; a character is a syntax error if no files as a text,"
            + " of any length, begin with the characters before it and this character.");
        error(60, LONGEST.substring(0, 57) + ";+2");
        error(60, LONGEST.substring(0, 57) + "0;>");
        error(60, LONGEST.substring(0, 57) + "0;<");
        error(3, "+20!");
        error(3, "+201");
        error(2, "-0:;+1");
        due("a file that is not there is no syntax error", 4, typed(">7:5").firstError());
        due("nor is one that is too large by then", 12, typed("+200;>0:200;").firstError());
    }

    // ---- promise 13

    static void runWithoutOrders() {
        says(13, "Throws IllegalArgumentException if the buffer does not tell files as a text");
        thrown("an empty buffer", ARGUMENT, TailBlocks::new, x -> x.run());
        thrown("a text begun, on a busy disk", ARGUMENT, Cases::busy, x -> x.run());
        String[] texts = {"+", ">", "<", "-", "+1;", "-1;", ">1", "<1", ">1:", "<1:", ">1:1;", "+1;+", "+1;>1", "+1;-",
            ";", ";+1", "+1;;+1", "!", "+!", "+1!", "1", "+201", ">0:0", "<0:0", ">0:201", "<0:201", "-10", "-:",
            "+1,+1"};
        for (String text : texts) {
            thrown("orders '" + text + "'", ARGUMENT, () -> typed(text), x -> x.run());
        }
        thrown("60 characters and a text begun", ARGUMENT,
            () -> typed("+1;-0;+1;-0;+1;-0;+1;-0;+1;-0;+1;-0;+1;-0;+1;-0;+1;-0;+1;-0;"), x -> x.run());
        thrown("right orders before the error", ARGUMENT, () -> typed("+1;+2;+3;x"), x -> x.run());
        says(TERMS, "A call that throws an exception changes nothing (the buffer stays as it is, too).");
        TailBlocks x = typed("+1;+2;");
        thrown("orders +1;+2;", ARGUMENT, () -> typed("+1;+2;"), y -> y.run());
        type(x, "+3");
        due("the buffer can be gone on with", 3, x.run());
    }

    private static void runs(int want, int files, int refused, String text) {
        TailBlocks x = typed(text);
        due("orders done of " + text, want, x.run());
        due("files after " + text, files, x.count(0));
        due("refused in " + text, refused, x.count(8));
        due("states saved by " + text, 1, x.count(11));
        due("the buffer after " + text, 0, x.clearBuffer());
    }

    static void runToTheEnd() {
        says(13, "Returns how many are done.");
        runs(1, 1, 0, "+0");
        runs(1, 1, 0, "+200");
        runs(2, 1, 0, "+0;>0:1");
        runs(2, 1, 0, "+0;>0:200");
        runs(2, 1, 0, "+1;<0:1");
        runs(2, 1, 0, "+200;<0:200");
        runs(2, 0, 0, "+1;-0");
        runs(20, 0, 0, LONGEST);
        runs(13, 9, 0, "+1;+1;+1;+1;+1;+1;+1;+1;+1;+1;>9:1;<8:1;-9");
        says(13, "Does the orders in the buffer as create(), grow(), cut() and delete() do, one after the other");
        TailBlocks x = ran("+20;+5;+9;>1:1;<0:8;-2");
        dueFile("cut", x, 0, 12, 0, 12, 0, 0, 0, 2);
        dueFile("grown", x, 1, 6, 0, 6, 1, 4, 0, 1);
        due("deleted", NONE, sizeOf(x, 2));
    }

    static void runUpToARefusedOne() {
        says(13, "up to the first one that is refused (and counted so)");
        runs(1, 1, 1, "+0;<0:1");
        runs(1, 1, 1, "+1;<0:2;+1");
        runs(1, 1, 1, "+1;>0:200;+1;+1");
        runs(2, 2, 1, "+192;+192;+1;+0");
        runs(10, 10, 1, "+0;+0;+0;+0;+0;+0;+0;+0;+0;+0;+0;-0");
        Maker broken = () -> spoilt("+20", 0);
        refused("none is done of two that a broken file refuses", 1, broken, x -> noneOf(x, ">0:1;<0:1"));
        refused("none is done of a cut and a deletion", 1, broken, x -> noneOf(x, "<0:1;-0"));
        refused("none is done of two files", 1, () -> ran("+192;+192"), x -> noneOf(x, "+1;+0"));
    }

    /** NONE if none of the orders is done. */
    private static int noneOf(TailBlocks x, String orders) {
        type(x, orders);
        int done = x.run();
        return done == 0 ? NONE : done;
    }

    static void runUpToOneThatWouldThrow() {
        says(13, "or whose method would throw an exception, and clears the buffer");
        runs(0, 0, 0, "-0");
        runs(0, 0, 0, ">0:1");
        runs(0, 0, 0, "<9:200");
        runs(0, 0, 0, "-9;+1");
        runs(1, 1, 0, "+1;-1;+1");
        runs(1, 1, 0, "+1;>1:1;+1");
        runs(1, 1, 0, "+1;<1:1;+1");
        runs(2, 0, 0, "+1;-0;-0;+1");
        runs(10, 10, 0, "+0;+0;+0;+0;+0;+0;+0;+0;+0;+0");
    }

    static void runSavesAState() {
        says(13, "Undoable, as one call, also if none is done.");
        undoable("three orders", 3, () -> ran("+5"), x -> ranOn(x, "+1;+2;>0:3"));
        undoable("two, then a refused one", 2, () -> ran("+5"), x -> ranOn(x, "+1;-0;>1:200;+2"));
        undoable("none, the first is refused", 0, () -> ran("+5"), x -> ranOn(x, "<0:6"));
        undoable("none, the first would throw", 0, () -> ran("+5"), x -> ranOn(x, "-1"));
        says(13, "int run() throws IllegalArgumentException");
        TailBlocks x = with(0, 0, 0, 0, 0, 0);
        due("with all saved states taken", 1, ranOn(x, "+1"));
        due("with all saved states taken", 6, x.count(11));
        x.undo();
        due("with all saved states taken", 6, x.count(0));
    }

    private static int ranOn(TailBlocks x, String orders) {
        type(x, orders);
        return x.run();
    }
}
