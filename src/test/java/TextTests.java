/** Promises 28 to 34: texts of commands, their faults, reasons, and lines. */
public final class TextTests {
    private TextTests() {
    }

    public static void main(String[] args) {
        bufferFills();
        everyCommand();
        faults();
        faultsChangeNothing();
        allOrNone();
        refusedInTexts();
        manyCommands();
        reasons();
        barrelLines();
        panelLines();
        lineStays();
        Check.finish();
    }

    private static void bufferFills() {
        RainCellar x = new RainCellar();
        for (int k = 1; k <= 60; k++) {
            Check.equal("append " + k, k, x.append((char) (k == 1 ? 0 : 65535)));
            Check.equal("characters", k, x.account(11));
        }
        Check.badState("append 61", () -> x.append('y'));
        Check.equal("still 60", 60, x.account(11));
        Check.badArgument("no such text", () -> x.commands());
        Check.equal("fault at its first", 0, x.faultPosition());
        Check.equal("the buffer is empty", 0, x.account(11));
        Check.equal("it takes a character again", 1, x.append('y'));
    }

    private static void everyCommand() {
        RainCellar x = new RainCellar();
        Check.equal("four commands", 4, Check.carryOut(x, "b3;b0;b1;s9*3"));
        Check.equal("no fault", -1, x.faultPosition());
        Check.equal("buffer is empty", 0, x.account(11));
        Check.equal("storm", "0:9#0m3", Check.lineOf(x, 1));
        Check.equal("hail of the storm", 6, x.account(2));
        Check.equal("adulterates with one digit", 1, Check.carryOut(x, "h1=4"));
        Check.equal("with two", 1, Check.carryOut(x, "h2=02"));
        Check.equal("adulterated", "0:13#0m3h4", Check.lineOf(x, 1));
        Check.equal("adulterated", "1:20#0m3h2", Check.lineOf(x, 2));
        Check.equal("pours", 2, Check.carryOut(x, "b0;p0>3=12"));
        Check.equal("poured", "0:12#0m3", Check.lineOf(x, 3));
        Check.equal("pours one digit and a zero and one", 2, Check.carryOut(x, "p0>3=3;p0>3=01"));
        Check.equal("poured", "0:16#0m3", Check.lineOf(x, 3));
        Check.equal("sommeliers", 3, Check.carryOut(x, "m1;t2;m0"));
        Check.equal("panel", "m1 t2 m0", Check.panelOf(x));
        Check.equal("leave", 1, Check.carryOut(x, "l0"));
        Check.equal("panel then", "t2 m0", Check.panelOf(x));
        Check.equal("glasses", 1, Check.carryOut(x, "g0"));
        Check.equal("drunk", "3:2#0m3", Check.lineOf(x, 0));
        Check.equal("year and clear", 2, Check.carryOut(x, "y;c2"));
        Check.equal("cleared", 0, x.roofOf(2, 0));
        Check.equal("the others have moss", 1, x.roofOf(1, 0));
        Check.equal("the bucket is empty", 0, x.account(2));
        Check.equal("away", 2, Check.carryOut(x, "b2;x4"));
        Check.equal("four barrels", 4, x.account(0));
    }

    private static void faults() {
        fault("", 0);
        fault(";", 0);
        fault(" y", 0);
        fault("Y", 0);
        fault("y ", 1);
        fault("yy", 1);
        fault("y;", 2);
        fault("y;;", 2);
        fault("y;q", 2);
        fault("s", 1);
        fault("s*", 1);
        fault("s5", 2);
        fault("s52", 2);
        fault("s5*", 3);
        fault("s5*x", 3);
        fault("s5*22", 4);
        fault("b", 1);
        fault("bb", 1);
        fault("b12", 2);
        fault("x-1", 1);
        fault("p", 1);
        fault("p0", 2);
        fault("p0=1", 2);
        fault("p0>", 3);
        fault("p0>>", 3);
        fault("p0>1", 4);
        fault("p0>1>", 4);
        fault("p0>1=", 5);
        fault("p0>1=;", 5);
        fault("p0>1=123", 7);
        fault("p0>1=1 ", 6);
        fault("p0>1=12;", 8);
        fault("h", 1);
        fault("h0", 2);
        fault("h0>", 2);
        fault("h0=", 3);
        fault("h0=a", 3);
        fault("h0=1a", 4);
        fault("h0=111", 5);
        fault("m", 1);
        fault("t10", 2);
        fault("l/", 1);
        fault("g:", 1);
        fault("c", 1);
        fault("y1", 1);
        fault("y;b1;m", 6);
        fault("b\u0661", 1);
        fault("y;y;y;y;y;y;y;y;y;y;y;y;y;y;y;y;y;y;y;y;y;y;y;y;y;y;y;y;y;y;", 60);
        afterALongerOne();
    }

    private static void fault(String text, int due) {
        RainCellar x = new RainCellar();
        Check.badArgument("text " + text, () -> Check.carryOut(x, text));
        Check.equal("fault position of " + text, due, x.faultPosition());
        Check.equal("buffer after " + text, 0, x.account(11));
    }

    /** What an earlier text left behind the end of a shorter one is no part of it. */
    private static void afterALongerOne() {
        RainCellar x = new RainCellar();
        String[] shorter = {"b3;b", "b3;", "b", "s5*", "s5", "s", ""};
        for (String text : shorter) {
            Check.carryOut(x, text.startsWith("b") ? "b3;b0;x0" : "s5*2;y;y");
            Check.badArgument("shorter text " + text, () -> Check.carryOut(x, text));
            Check.equal("fault position of it", text.length(), x.faultPosition());
        }
        Check.carryOut(x, "y;y;y");
        Check.equal("one command alone", 1, Check.carryOut(x, "y"));
    }

    private static void faultsChangeNothing() {
        RainCellar x = new RainCellar();
        Check.carryOut(x, "b0;s1*1;m0");
        String before = Check.seen(x);
        Check.badArgument("a fault at the end", () -> Check.carryOut(x, "y;b2;b"));
        Check.equal("nothing is carried out", before, Check.seen(x));
        Check.equal("nothing more can be undone", 1, x.account(10));
        Check.equal("fault position", 6, x.faultPosition());
        Check.noElement("a fault is no reason", () -> x.reason(0));
        x.append('q');
        Check.equal("kept until commands", 6, x.faultPosition());
        Check.badArgument("another", () -> x.commands());
        Check.equal("the latest", 0, x.faultPosition());
        x.undo();
        Check.equal("undo leaves it", 0, x.faultPosition());
        Check.carryOut(x, "y");
        Check.equal("no fault any more", -1, x.faultPosition());
    }

    private static void allOrNone() {
        RainCellar x = new RainCellar();
        Check.carryOut(x, "b0;s1*1;m0;t9");
        Check.badArgument("a fault", () -> Check.carryOut(x, "?"));
        Check.refused("the third is refused", x, 5, 1, () -> Check.carryOut(x, "y;b2;x0;y"));
        Check.equal("its index", 2, x.reason(2));
        Check.equal("it had no fault", -1, x.faultPosition());
        Check.equal("buffer is empty", 0, x.account(11));
        Check.equal("one change can be undone", 1, x.account(10));
        Check.refused("the detail is that of the moment", x, 3, 3, () -> Check.carryOut(x, "b2;b2;x7"));
        Check.equal("its index", 2, x.reason(2));
        Check.refused("the first", x, 6, 1, () -> Check.carryOut(x, "g0;y"));
        Check.equal("its index", 0, x.reason(2));
    }

    private static void refusedInTexts() {
        refused("storm 0", 1, 0, "y;s0*0");
        refused("storm hail 4", 1, 0, "s1*4");
        refused("barrel 4", 1, 0, "b4");
        refused("pour 21", 1, 0, "b0;p0>1=21");
        refused("hail 10", 1, 0, "h0=10");
        refused("leave 2", 4, 2, "l2");
        refused("clear 3", 12, 3, "c3;c3");
        refused("clear 4", 1, 0, "c4");
        RainCellar x = Check.after("b0 s1*1");
        Check.equal("each is carried out on what the earlier left", 3, Check.carryOut(x, "b1;p0>1=1;x0"));
        Check.equal("so it is", "1:1#0m3", Check.lineOf(x, 0));
        x.undo();
        Check.equal("all of them are undone at once", "0:1#0m3", Check.lineOf(x, 0));
    }

    private static void refused(String what, int reason, int detail, String text) {
        RainCellar x = Check.after("b0 s1*1 m0 t9");
        Check.refused(what, x, reason, detail, () -> Check.carryOut(x, text));
    }

    private static void manyCommands() {
        RainCellar x = new RainCellar();
        String years = "y;y;y;y;y;y;y;y;y;y;y;y;y;y;y;y;y;y;y;y;y;y;y;y;y;y;y;y;y;y";
        Check.equal("thirty", 30, Check.carryOut(x, years));
        Check.equal("years", 30, x.account(4));
        Check.equal("one change", 1, x.account(10));
        Check.refused("the ninth", x, 2, 8, () -> Check.carryOut(x, "b0;b0;b0;b0;b0;b0;b0;b0;b0"));
        Check.equal("its index", 8, x.reason(2));
    }

    private static void reasons() {
        RainCellar x = new RainCellar();
        Check.badArgument("what 3, ahead of no reason", () -> x.reason(3));
        Check.badArgument("what -1", () -> x.reason(-1));
        Check.noElement("nothing was refused", () -> x.reason(2));
        Check.outOfBounds("this is no refusal", () -> x.note(0));
        Check.noElement("still nothing", () -> x.reason(1));
        Check.refused("in a text", x, 3, 1, () -> Check.carryOut(x, "b0;x5"));
        Check.equal("its index", 1, x.reason(2));
        Check.refused("another call", x, 4, 0, () -> x.leave(0));
        Check.equal("its index is 0", 0, x.reason(2));
        x.barrel(0);
        x.undo();
        x.save();
        x.restore();
        Check.equal("it is kept", 4, x.reason(0));
        Check.badArgument("what 3", () -> x.reason(3));
    }

    private static void barrelLines() {
        RainCellar x = new RainCellar();
        x.barrel(2);
        Check.equal("empty", "2:0", Check.lineOf(x, 0));
        x.storm(4, 1);
        Check.equal("with rain", "2:12#0m3", Check.lineOf(x, 0));
        x.hail(0, 2);
        Check.equal("with hail", "2:14#0m3h2", Check.lineOf(x, 0));
        Check.equal("its length", 10, x.line(0));
        for (int k = 0; k < 9; k++) {
            x.storm(1, 0);
        }
        x.clear(0);
        x.barrel(0);
        x.storm(9, 3);
        Check.equal("two digits", "0:9#10m0", Check.lineOf(x, 1));
        Check.outOfBounds("line 2", () -> x.line(2));
        Check.outOfBounds("line -1", () -> x.line(-1));
        Check.equal("a line that fails leaves the line", '#', x.character(3));
    }

    private static void panelLines() {
        RainCellar x = new RainCellar();
        x.sommelier(4, true);
        Check.equal("one", "t4", Check.panelOf(x));
        x.sommelier(0, false);
        x.sommelier(9, false);
        Check.equal("three", "t4 m0 m9", Check.panelOf(x));
        x.leave(0);
        x.leave(0);
        x.leave(0);
        Check.equal("none", 0, x.panel());
        Check.outOfBounds("the line is empty", () -> x.character(0));
    }

    private static void lineStays() {
        RainCellar x = new RainCellar();
        x.barrel(1);
        int length = x.line(0);
        x.storm(9, 0);
        x.undo();
        x.undo();
        Check.equal("no barrel any more", 0, x.account(0));
        Check.equal("the line stays", "1:0", Check.written(x, length));
        Check.outOfBounds("index -1", () -> x.character(-1));
        Check.outOfBounds("index 3", () -> x.character(3));
        Check.outOfBounds("a large index", () -> x.character(Integer.MAX_VALUE));
    }
}
