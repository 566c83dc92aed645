import java.util.function.ToDoubleFunction;

/** The sentences of the promises 28 to 40, each with its test. */
final class KeepingSentences extends Sentences {
    private static final String NO_BARREL = "Throws `IndexOutOfBoundsException` if there is no such barrel";
    private static final String ALL_EMPTY = "Throws `ArithmeticException` if all are empty";
    private static final String SIXTY = "s1*0;".repeat(11) + "b0;b1";

    private KeepingSentences() {
    }

    static void check() {
        append();
        commands();
        faultPosition();
        reason();
        line();
        panel();
        character();
        meanNote();
        hailShare();
        account();
        undo();
        save();
        restore();
    }

    private static void append() {
        part("Promise 28");
        says("Appends a character to the text buffer. - `character`: the character Returns the new length of the"
                + " buffer.", () -> {
            RainCellar x = new RainCellar();
            for (int k = 1; k <= 60; k++) {
                due("the length", k, x.append(SIXTY.charAt(k - 1)));
                due("the account of it", k, x.account(11));
            }
            due("all are there, in their order", 13, x.commands());
            due("after a text", 1, x.append('y'));
            RainCellar y = new RainCellar();
            for (int sign = 0; sign < 60; sign++) {
                due("each sign", sign + 1, y.append((char) (sign * 4)));
            }
        });
        says("Throws `IllegalStateException` if the buffer contains 60 characters", () -> {
            RainCellar x = after("b3");
            Check.append(x, SIXTY);
            String before = seen(x) + around(x);
            due("the 61st", "IllegalStateException", thrown(x, y -> y.append('y')));
            due("once more", "IllegalStateException", thrown(x, y -> y.append(';')));
            due("nothing changes", before, seen(x) + around(x));
            due("the text is as it was", 13, x.commands());
            due("there is room again", 1, x.append('?'));
            RainCellar z = new RainCellar();
            Check.append(z, SIXTY.substring(1));
            due("59 are not 60", 60, z.append('?'));
            due("60 are", "IllegalStateException", thrown(z, y -> y.append('?')));
        });
    }

    private static void commands() {
        part("Promise 29");
        says("Carries out the commands in the text buffer, one after the other; if one is refused, none is carried"
                + " out.", () -> {
            RainCellar x = after("b0");
            due("all", 5, Check.carryOut(x, "s1*2;b1;h0=1;y;c1"));
            due("the barrels", "0:2#0m3h1 1:0", lines(x));
            due("the bucket", 0, x.account(2));
            due("a year, then cleared", 0, x.roofOf(1, 0));
            Check.carryOut(x, "c0;y");
            due("cleared, then a year", 1, x.roofOf(0, 0));
            refusedText("b0 s1*1", "x0", 5, 1, 0);
            refusedText("b0 s1*1", "x0;y", 5, 1, 0);
            refusedText("b0 s1*1", "y;x0;y", 5, 1, 1);
            refusedText("b0 s1*1", "y;b1;s9*0;m9;h0=1", 10, 0, 4);
            refusedText("b0 b1", "b0;b0;b0;b0;b0;b0;b0", 2, 8, 6);
            refusedText("m1 m2", "m0;m0;m0", 2, 4, 2);
            refusedText("y y y y y y y y y S y", "c0;b1;c0", 12, 0, 2);
            refusedText("b3 s9*3 t9", "g0;h0=1;g0;b1;g0", 6, 0, 4);
        });
        says("The buffer is empty afterwards, also if an exception is thrown.", () -> {
            for (String text : new String[] {"y", "?", "y;", "", "x0", "y;x0", SIXTY, "?".repeat(60)}) {
                RainCellar x = new RainCellar();
                thrown(x, y -> Check.carryOut(y, text));
                due(text + ": characters", 0, x.account(11));
                due(text + ": nothing is carried out again", "IllegalArgumentException", thrown(x, RainCellar::commands));
                due(text + ": the next character", 1, x.append('y'));
                due(text + ": alone", 1, x.commands());
            }
        });
        says("Returns the number of commands.", () -> {
            due("one", 1, Check.carryOut(new RainCellar(), "s9*3"));
            due("two", 2, Check.carryOut(new RainCellar(), "y;y"));
            due("in 60 characters", 13, Check.carryOut(new RainCellar(), SIXTY));
            due("the most", 30, Check.carryOut(new RainCellar(), "y;".repeat(29) + "b3"));
            RainCellar x = after("b3");
            Check.carryOut(x, "y;y;y");
            due("fewer than ahead of it", 1, Check.carryOut(x, "y"));
            due("the year", 4, x.account(4));
        });
        says("Throws `IllegalArgumentException` if the text has a fault", () -> {
            fault("", 0);
            fault("?", 0);
            fault("y;", 2);
            fault("y;b", 3);
            fault("b0;b0;x9;?", 9);
            fault("y;c4;p0>1=123", 12);
            fault(SIXTY.substring(0, 59), 59);
            fault("y".repeat(60), 1);
            RainCellar x = after("b0 S y");
            thrown(x, y -> Check.carryOut(y, "b1;y;?"));
            due("no change more can be undone", 2, x.account(10));
            due("nothing was refused", "NoSuchElementException", thrown(x, y -> y.reason(0)));
            due("the snapshot is as it was", 1, x.restore());
            due("the year that was saved", 0, x.account(4));
        });
        says("Throws `UnsupportedOperationException` if a command is refused; the reason is kept", () -> {
            refusedText("", "y;s0*0", 1, 0, 1);
            refusedText("", "y;b4", 1, 0, 1);
            refusedText("b1", "y;x1", 3, 1, 1);
            refusedText("b1 b1", "y;p0>1=1", 6, 0, 1);
            refusedText("b1", "y;h0=1", 6, 0, 1);
            refusedText("", "m0;m0;m0;t0;t0", 2, 4, 4);
            refusedText("m1", "y;l1", 4, 1, 1);
            refusedText("b1", "y;g0", 11, 0, 1);
            refusedText("", "y;c1;c1", 12, 1, 2);
        });
    }

    private static void faultPosition() {
        part("Promise 30");
        says("Returns the fault position of the text of the latest call of commands. Returns the fault position, or -1"
                + " if that text had no fault or there was no such call.", () -> {
            due("no call", -1, new RainCellar().faultPosition());
            due("no call of commands", -1, after("b0 y S R").faultPosition());
            RainCellar x = new RainCellar();
            String[] texts = {"y", "?", "y;y", "y;", "y;x", "y;x0", "", "y", "b3;b3;s5*2;h0=100", "x0"};
            int[] due = {-1, 0, -1, 2, 3, -1, 0, -1, 16, -1};
            for (int k = 0; k < texts.length; k++) {
                String text = texts[k];
                thrown(x, y -> Check.carryOut(y, text));
                due("text " + text, due[k], x.faultPosition());
                x.append('?');
                due("as long as no other text is carried out", due[k], x.faultPosition());
                thrown(x, RainCellar::commands);
                due("then another one", 0, x.faultPosition());
            }
            RainCellar z = new RainCellar();
            thrown(z, y -> Check.carryOut(y, SIXTY.substring(0, 59)));
            due("at the end", 59, z.faultPosition());
            due("a full one", 13, Check.carryOut(z, SIXTY));
            due("has none", -1, z.faultPosition());
            thrown(z, y -> Check.carryOut(y, "s1*0;".repeat(12)));
            due("behind the last", 60, z.faultPosition());
        });
    }

    private static void reason() {
        part("Promise 31");
        says("Returns a number of the reason that is kept. - `what`: 0 for the reason, 1 for its detail, 2 for the"
                + " index of the command Returns the number.", () -> {
            RainCellar x = after("b3 s4*0");
            thrown(x, y -> Check.carryOut(y, "y;y;x0"));
            due("the reason", 5, x.reason(0));
            due("its detail", 16, x.reason(1));
            due("the index of the command", 2, x.reason(2));
            thrown(x, y -> y.clear(4));
            due("the latest reason", 1, x.reason(0));
            due("its detail", 0, x.reason(1));
            due("no text", 0, x.reason(2));
            for (int k = 0; k < 20; k++) {
                x.year();
            }
            due("it is kept", 1, x.reason(0));
        });
        says("Throws `IllegalArgumentException` if what is not from 0 to 2", () -> {
            for (int what : new int[] {-1, 3, Integer.MIN_VALUE, Integer.MAX_VALUE}) {
                badArgument("", x -> x.reason(what));
                RainCellar x = new RainCellar();
                thrown(x, y -> y.leave(0));
                due("when there is a reason", "IllegalArgumentException", thrown(x, y -> y.reason(what)));
            }
        });
        says("Throws `NoSuchElementException` if nothing was refused", () -> {
            for (int what = 0; what <= 2; what++) {
                int w = what;
                noElement("", x -> x.reason(w));
                noElement("b0 s1*0 y u S R", x -> x.reason(w));
                RainCellar x = new RainCellar();
                thrown(x, y -> Check.carryOut(y, "x0;?"));
                thrown(x, y -> y.note(0));
                thrown(x, RainCellar::undo);
                thrown(x, RainCellar::restore);
                thrown(x, y -> y.account(12));
                due("what fails is not refused", "NoSuchElementException", thrown(x, y -> y.reason(w)));
            }
        });
    }

    private static void line() {
        part("Promise 32");
        says("Writes a barrel, in place of the line before: its roof, \":\" and its litres, and, if it is not empty,"
                + " \"#\" and its storm, \"m\" and its moss, and \"h\" and its hail, if it has some; as in"
                + " \"2:14#3m5h2\". - `barrel`: the barrel Returns the length of the line.", () -> {
            written("b3", 0, "3:0");
            written("y y s1*0 s1*0 s1*0 b2 s4*1 h0=2", 0, "2:14#3m5h2");
            written("y y s1*0 s1*0 s1*0 b2 s4*1", 0, "2:12#3m5");
            written("c0 b0 s1*0", 0, "0:1#0m0");
            written("b0 s1*0 b1 p0>1=1", 0, "0:0");
            written("b1 b0 s1*1 h1=1", 1, "0:2#0m3h1");
            written("b0 s1*1 h0=2 b1 p0>1=1", 0, "0:2#0m3h2");
            written("s1*0 ".repeat(10) + "y y y y y y b3 s1*3 s1*3 h0=9", 0, "3:13#10m9h9");
            written("s1*0 ".repeat(100) + "b3 s1*3 s1*3 h0=9 s1*3 h0=6", 0, "3:19#100m3h15");
            RainCellar x = after("b3 b0 s5*0");
            x.line(0);
            due("a shorter one", 7, x.line(1));
            due("is in place of the longer", "0:5#0m3", Check.written(x, 7));
            due("nothing is behind it", "IndexOutOfBoundsException", thrown(x, y -> y.character(7)));
            x.storm(1, 1);
            x.hail(1, 1);
            due("the line stays when the barrel changes", "0:5#0m3", Check.written(x, 7));
            x.panel();
            x.line(1);
            due("in place of the panel", "0:6#0m3h1", Check.written(x, 9));
        });
        says(NO_BARREL, () -> {
            for (int barrel : new int[] {-1, 2, 8, Integer.MIN_VALUE, Integer.MAX_VALUE}) {
                noIndex("b0 b1 s1*0", x -> x.line(barrel));
            }
            noIndex("", x -> x.line(0));
            noIndex("b0 s1*0 b1 p0>1=1 x0", x -> x.line(1));
            RainCellar x = after("b3 s5*0");
            x.line(0);
            thrown(x, y -> y.line(1));
            due("the line stays", "3:20#0m3", Check.written(x, 8));
        });
    }

    private static void written(String calls, int barrel, String due) {
        RainCellar x = after(calls);
        due(calls + ": the length", due.length(), x.line(barrel));
        due(calls + ": the line", due, Check.written(x, due.length()));
        due(calls + ": behind it", "IndexOutOfBoundsException", thrown(x, y -> y.character(due.length())));
    }

    private static void panel() {
        part("Promise 33");
        says("Writes the panel, in place of the line before: for each sommelier \"m\" for a mild one or \"t\" for a"
                + " strict one, and the palate, with a blank between two. Returns the length of the line.", () -> {
            String[] panels = {"", "m0", "t9", "t0 m9", "m1 t2 m3", "t4 t4 m4 m4"};
            for (String due : panels) {
                RainCellar x = after(due);
                due(due + ": the length", due.length(), x.panel());
                due(due + ": the line", due, Check.written(x, due.length()));
                due(due + ": behind it", "IndexOutOfBoundsException", thrown(x, y -> y.character(due.length())));
            }
            RainCellar x = after("b3 s5*0 m1 t2");
            x.line(0);
            due("in place of the line", 5, x.panel());
            due("the panel", "m1 t2", Check.written(x, 5));
            due("nothing is behind it", "IndexOutOfBoundsException", thrown(x, y -> y.character(5)));
            x.leave(0);
            due("it stays when one leaves", "m1 t2", Check.written(x, 5));
            x.leave(0);
            due("nobody", 0, x.panel());
            due("nothing is written", "IndexOutOfBoundsException", thrown(x, y -> y.character(0)));
        });
    }

    private static void character() {
        part("Promise 34");
        says("Returns a character of the line, which is empty at first. - `index`: the index, from 0 Returns the"
                + " character.", () -> {
            due("empty at first", "IndexOutOfBoundsException", thrown(new RainCellar(), x -> x.character(0)));
            RainCellar x = after("b2");
            x.line(0);
            due("0", '2', x.character(0));
            due("1", ':', x.character(1));
            due("2", '0', x.character(2));
        });
        says("Throws `IndexOutOfBoundsException` if there is no such index", () -> {
            for (int index : new int[] {-1, 3, 4, 13, 60, Integer.MIN_VALUE, Integer.MAX_VALUE}) {
                noIndex("", x -> x.character(index));
                RainCellar x = after("b2");
                x.line(0);
                due("index " + index, "IndexOutOfBoundsException", thrown(x, y -> y.character(index)));
                due("the line stays", "2:0", Check.written(x, 3));
            }
        });
    }

    private static void meanNote() {
        part("Promise 35");
        says("Returns the mean note of the barrels that are not empty: the sum divided by their number, both as"
                + " doubles. Returns the mean.", () -> {
            due("one", 3.0, after("b0 s1*0").meanNote());
            due("empty ones do not count", 3.0, after("b0 s1*0 b0 b1 b2").meanNote());
            due("two", 3.5, after("b0 s1*0 y b1 s1*0").meanNote());
            due("three", 10.0 / 3.0, after("b0 b1 s1*0 y b2 s1*0").meanNote());
            due("a note of 0 counts", 1.5, after("c0 b0 b1 s1*0").meanNote());
            due("none but 0", 0.0, after("c0 b0 s1*0").meanNote());
            due("with hail and years", 3.0, after("b0 b1 s1*1 h0=1 y y").meanNote());
            due("eight", 30.0 / 8.0, after("c0 b0 b1 b2 b3 s1*0 y y b0 b1 b2 b3 s1*0").meanNote());
            due("none behind the last", 1.5, after("b0 c1 b1 s1*0 b2 p0>2=1 x0").meanNote());
        });
        says(ALL_EMPTY, () -> allEmpty(RainCellar::meanNote));
    }

    private static void allEmpty(ToDoubleFunction<RainCellar> question) {
        for (String calls : new String[] {"", "b0", "b0 b1 b2 b3 b0 b1 b2 b3", "b0 s1*0 m0 g0", "b0 s1*1 h0=2 m0 g0",
            "b0 s1*0 u", "b0 b1 s1*0 m0 g0 g1 g1", "b3 s1*0 b0 p0>1=4 x0 m0 g0 g0 g0 g0"}) {
            throwing(calls, "ArithmeticException", question::applyAsDouble);
        }
    }

    private static void hailShare() {
        part("Promise 36");
        says("Returns what part of the litres in all barrels is hail, both numbers as floats. Returns the part.", () -> {
            due("none", 0.0f, after("b0 s1*0").hailShare());
            due("a fifth", 1.0f / 5.0f, after("b0 s4*1 h0=1").hailShare());
            due("of two barrels", 3.0f / 9.0f, after("b0 b1 s2*2 h0=1 h1=2").hailShare());
            due("with empty ones", 2.0f / 3.0f, after("b0 s1*1 h0=2 b0 b0").hailShare());
            due("hail alone and rain alone", 2.0f / 3.0f, after("b0 s1*1 h0=2 b1 p0>1=1").hailShare());
            due("all", 1.0f, after("b0 s1*1 h0=2 b1 p0>1=1 m0 g1").hailShare());
            due("no hail behind the last", 1.0f / 5.0f, after("b3 s1*1 b0 p0>1=4 h1=1 x0").hailShare());
            due("of eight", 2.0f / 52.0f, after("b0 b1 b2 b3 b0 b1 b2 b3 s5*1 h0=2").hailShare());
            due("none behind the last", 1.0f / 6.0f, after("b0 b3 s1*1 h1=1 b1 p0>2=1 x0").hailShare());
        });
        says(ALL_EMPTY, () -> allEmpty(RainCellar::hailShare));
    }

    private static void account() {
        part("Promise 37");
        says("Returns an account. - `what`: 0 for the barrels, 1 for the litres in them, 2 for the hail in the bucket, 3"
                + " for the sommeliers, 4 for the year, 5 for the storms so far, 6 for the litres lost in storms so"
                + " far, 7 for those drunk so far, 8 for those poured away so far, 9 for the barrels exposed so far, 10"
                + " for the changes that can be undone, 11 for the characters in the text buffer Returns the"
                + " account.", () -> {
            RainCellar x = after("b3 b2 b0 s2*3 y s1*2 h0=3 m4 m3 g1 m9 g0");
            Check.append(x, "y;y");
            accounts(x, 3, 6, 1, 3, 1, 2, 14, 5, 8, 1, 8, 3);
            x.undo();
            accounts(x, 3, 17, 1, 3, 1, 2, 14, 2, 0, 0, 7, 3);
            due("at first", 0, new RainCellar().account(10));
            accounts(after("b0 b1 s2*2 h0=2 h1=2 m9 m9 m9 g0 g1"), 2, 0, 0, 3, 0, 1, 14, 6, 4, 2, 8, 0);
            accounts(after("b0 b1 b2 b3 b0 b1 b2 b3 m1 m1 m1 m1 s5*3 s1*3"), 8, 60, 9, 4, 0, 2, 0, 0, 0, 0, 8, 0);
            accounts(after("b3 s1*0 b0 p0>1=4 x0"), 1, 4, 0, 0, 0, 1, 6, 0, 0, 0, 5, 0);
        });
        says("Throws `IllegalArgumentException` if what is not from 0 to 11", () -> {
            for (int what : new int[] {-1, 12, Integer.MIN_VALUE, Integer.MAX_VALUE}) {
                badArgument("b0 s1*0", x -> x.account(what));
            }
        });
    }

    private static void accounts(RainCellar x, int... due) {
        for (int what = 0; what < due.length; what++) {
            due("account " + what, due[what], x.account(what));
        }
    }

    private static void undo() {
        part("Promise 38");
        says("Undoes the latest call that can be undone. Returns the number of calls that can still be undone.", () -> {
            RainCellar x = after("b0 s1*1 y");
            due("the year", 2, x.undo());
            due("it is undone", "0 2", x.account(4) + " " + x.account(2));
            due("the storm", 1, x.undo());
            due("it is undone", "0:0", lines(x));
            due("the barrel", 0, x.undo());
            due("it is undone", 0, x.account(0));
            due("of nine", 7, after("y y y y y y y y y").undo());
            due("of eight", 7, after("y y y y y y y y").undo());
            due("of one", 0, after("y").undo());
            due("what is undone can be done again", 0, after("b0 u").barrel(1));
            RainCellar z = after("b0 s1*0 y");
            thrown(z, y -> y.takeAway(0));
            thrown(z, y -> Check.carryOut(y, "y;y;x0"));
            due("a refused call is none", 2, z.undo());
            due("the year is undone", "0 0:1#0m3", z.account(4) + " " + lines(z));
        });
        says("Throws `IllegalStateException` if there is none", () -> {
            badState("", RainCellar::undo);
            badState("b0 u", RainCellar::undo);
            badState("S", RainCellar::undo);
            badState("b0 S R", RainCellar::undo);
            badState("y y y y y y y y y u u u u u u u u", RainCellar::undo);
            RainCellar x = new RainCellar();
            thrown(x, y -> y.leave(0));
            thrown(x, y -> Check.carryOut(y, "y;x0"));
            x.append('y');
            due("nothing but what failed", "IllegalStateException", thrown(x, RainCellar::undo));
        });
    }

    private static void save() {
        part("Promise 39");
        says("Saves all that can be undone, in place of an earlier snapshot. Returns how many barrels there are.", () -> {
            due("none", 0, after("").save());
            due("eight", 8, after("b0 b1 b2 b3 b0 b1 b2 b3").save());
            due("one again", 1, after("b0 b1 x0").save());
            RainCellar x = after("b0 S b1 y S b2");
            due("in place of the earlier", 2, x.restore());
            due("the later year", 1, x.account(4));
            due("nothing else changes", 2, after("b0 b1 S").account(10));
            RainCellar y = after("b0 b1 S u u");
            due("what is undone later is saved all the same", 2, y.restore());
            due("the empty cellar is saved too", 0, after("S b0 b1").restore());
        });
    }

    private static void restore() {
        part("Promise 40");
        says("Restores what was saved; the snapshot is kept. Returns how many barrels there are.", () -> {
            String rich = "y b3 b3 b1 s6*1 m1 t7 s1*3 b2 h2=2 c1 ";
            String[] changes = {"s9*3", "b0", "x3", "p0>1=5", "p0>3=20", "h1=1", "m9", "l0", "l1", "g0", "g2", "c0", "y",
                "p1>3=4 x1 y y y y s1*0 s1*0 l0 l0 b1 b1 u u b3", "s1*0 ".repeat(13)};
            for (String change : changes) {
                RainCellar x = after(rich + "S " + change);
                String before = seen(after(rich));
                isSo(change + " changes something", !before.equals(seen(x)));
                due(change + ", then restored", 4, x.restore());
                due(change + ", then restored", before, seen(x));
                isSo("even", x.isEven());
                x.year();
                due("the snapshot is kept", 4, x.restore());
                due("as it was", before, seen(x));
            }
            due("fewer barrels", 1, after("b0 S b1 b2").restore());
            due("more barrels", 3, after("b0 b1 b2 S x0 x0").restore());
        });
        says("Throws `IllegalStateException` if there is no snapshot", () -> {
            badState("", RainCellar::restore);
            badState("b0 y u", RainCellar::restore);
            due("after one was saved", "nothing", thrown(after("S R"), RainCellar::restore));
        });
    }
}
