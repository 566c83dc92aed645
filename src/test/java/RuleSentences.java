import java.util.function.Consumer;

/** The sentences of the document's terms from texts to exceptions, each with its test. */
final class RuleSentences extends Sentences {
    private static final String YEARS = "y;".repeat(29);
    /** A cellar in which each change can be made, and nothing can be undone. */
    private static final String RICH = "y b3 b3 b1 s6*1 m1 t7 s1*3 b2 h2=2 S R ";

    private RuleSentences() {
    }

    static void check() {
        part("Terms");
        commandForms();
        textRules();
        orderOfReasons();
        reasonsByNumber();
        reasonIsKept();
        changes();
        whatStays();
        details();
        drawnHail();
        exceptions();
    }

    /** The text does just what the call does. */
    private static void does(String calls, String text, Consumer<RainCellar> call) {
        RainCellar x = after(calls);
        RainCellar twin = after(calls);
        String before = seen(x);
        due(text + ": commands", 1, Check.carryOut(x, text));
        call.accept(twin);
        due(text + ": state", seen(twin), seen(x));
        isSo(text + " changes something", !before.equals(seen(x)));
    }

    private static void commandForms() {
        says("Texts. The text buffer holds one or more commands with \";\" between them:", () -> {
            fault("", 0);
            due("one", 1, Check.carryOut(new RainCellar(), "y"));
            due("two", 2, Check.carryOut(new RainCellar(), "y;y"));
            due("thirty", 30, Check.carryOut(new RainCellar(), YEARS + "y"));
            fault(";", 0);
            fault("y;", 2);
            fault("y;;y", 2);
            fault("yy", 1);
            fault("y,y", 1);
            fault(YEARS, 58);
        });
        says("\"s\", a strength and \"*\" and hail is a storm;", () -> {
            for (int strength = 1; strength <= 9; strength++) {
                for (int hail = 0; hail <= 3; hail++) {
                    int s = strength;
                    int h = hail;
                    does("b3 b0", "s" + s + "*" + h, x -> x.storm(s, h));
                }
            }
            refusedText("b3", "s0*0", 1, 0, 0);
            refusedText("b3", "s1*4", 1, 0, 0);
        });
        says("\"b\" and a roof places a barrel;", () -> {
            for (int roof = 0; roof <= 3; roof++) {
                int r = roof;
                does("b3", "b" + r, x -> x.barrel(r));
            }
            refusedText("b3", "b4", 1, 0, 0);
            refusedText("b3", "b9", 1, 0, 0);
        });
        says("\"x\" and a barrel takes it away;", () -> {
            does("b0", "x0", x -> x.takeAway(0));
            does("b3 b2 b1 b0 b3 b2 b1 b0", "x7", x -> x.takeAway(7));
            refusedText("b3 b2", "x2", 3, 2, 0);
            refusedText("b3 b2 b1 b0 b3 b2 b1 b0", "x9", 3, 8, 0);
        });
        says("\"p\", a barrel, \">\" and a barrel, \"=\" and litres pours;", () -> {
            does("b3 s5*0 b0", "p0>1=1", x -> x.pour(0, 1, 1));
            does("b3 s5*0 b0", "p0>1=07", x -> x.pour(0, 1, 7));
            does("b0 b3 b1 s5*0 b0", "p1>3=20", x -> x.pour(1, 3, 20));
            does("b0 b0 b0 b0 b0 b0 b0 b0 s5*0", "p0>7=5", x -> x.pour(0, 7, 5));
            refusedText("b3 s5*0 b0", "p0>1=21", 1, 0, 0);
            refusedText("b3 s5*0 b0", "p0>1=0", 1, 0, 0);
            refusedText("b3 s5*0 b0", "p0>1=00", 1, 0, 0);
            refusedText("b3 s5*0 b0", "p0>1=99", 1, 0, 0);
        });
        says("\"h\", a barrel, \"=\" and litres adulterates;", () -> {
            does("b3 s1*3", "h0=6", x -> x.hail(0, 6));
            does("b3 s1*3", "h0=05", x -> x.hail(0, 5));
            does("b1 b3 s1*3", "h1=1", x -> x.hail(1, 1));
            does("b3 s1*3 s1*3", "h0=9", x -> x.hail(0, 9));
            refusedText("b3 s1*3", "h0=10", 1, 0, 0);
            refusedText("b3 s1*3", "h0=0", 1, 0, 0);
        });
        says("\"m\" or \"t\" and a palate lets a mild or a strict sommelier come;", () -> {
            for (int palate = 0; palate <= 9; palate++) {
                int p = palate;
                does("", "m" + p, x -> x.sommelier(p, false));
                does("", "t" + p, x -> x.sommelier(p, true));
            }
        });
        says("\"l\" and a sommelier lets one leave;", () -> {
            for (int sommelier = 0; sommelier <= 3; sommelier++) {
                int k = sommelier;
                does("m1 m2 t1 t2", "l" + k, x -> x.leave(k));
            }
            refusedText("m1 m2", "l2", 4, 2, 0);
        });
        says("\"g\" and a barrel lets the panel drink;", () -> {
            does("b3 s1*1 m0 h0=1", "g0", x -> x.drink(0));
            does("b0 b3 s1*1 m9 h1=2", "g1", x -> x.drink(1));
            refusedText("b3 s1*1", "g0", 11, 0, 0);
        });
        says("\"c\" and a roof clears it of moss;", () -> {
            for (int roof = 0; roof <= 3; roof++) {
                int r = roof;
                does("", "c" + r, x -> x.clear(r));
            }
            refusedText("", "c4", 1, 0, 0);
        });
        says("\"y\" lets a year go by.", () -> does("b3 s1*3", "y", RainCellar::year));
    }

    private static void textRules() {
        says("All numbers have one digit, but litres one or two.", () -> {
            String[] forms = {"s1*0", "b0", "x0", "p0>1=1", "h0=1", "m1", "t1", "l0", "g0", "c0"};
            for (String form : forms) {
                for (int k = 1; k < form.length(); k++) {
                    if (Character.isDigit(form.charAt(k))) {
                        numberAt(form, k, k == form.length() - 1 && form.indexOf('=') > 0);
                    }
                }
            }
            fault("y1", 1);
            does("b3 s5*0 b0", "p0>1=12", x -> x.pour(0, 1, 12));
            does("b3 s5*0 b0", "p0>1=2", x -> x.pour(0, 1, 2));
        });
        says("The fault position of a text is the index of its first character that cannot continue such a text, or"
                + " the length of the text if it ends too early.", () -> {
            String letters = "sbxphmtlgcy";
            String digits = "0123456789";
            faults("s1*2", letters, digits, "*", digits, ";");
            for (String letter : new String[] {"b", "x", "m", "t", "l", "g", "c"}) {
                faults(letter + "0", letters, digits, ";");
            }
            faults("p0>1=12", letters, digits, ">", digits, "=", digits, digits + ";", ";");
            faults("h0=12", letters, digits, "=", digits, digits + ";", ";");
            faults("y", letters, ";");
            fault("s1*0;".repeat(11) + "b0;?1", 58);
            fault("s1*0;".repeat(11) + "b0;b?", 59);
            fault("s1*0;".repeat(11) + "b0;b;", 59);
            fault("s1*0;".repeat(11) + "b0;b", 59);
            fault("s1*0;".repeat(11) + "y;y;;", 59);
            fault("s1*0;".repeat(11) + "y;y;b", 60);
            fault("s1*0;".repeat(12), 60);
            fault("s1*0;".repeat(11) + "b0;s1", 60);
            fault("s1*0;".repeat(11) + "y;p0>", 60);
            fault("s1*0;".repeat(11) + "y;h0=", 60);
            behindLongerOnes();
        });
        says("The commands are carried out as the methods would, all of them or none.", () -> {
            RainCellar x = new RainCellar();
            due("all", 8, Check.carryOut(x, "b3;b3;s5*2;p0>1=05;h1=2;y;m4;g1"));
            due("one after the other", "3:15#0m3 3:6#0m3h2", lines(x));
            for (int k = 0; k < 5; k++) {
                String text = "y;".repeat(k) + "x0;" + "y;".repeat(4 - k) + "b3";
                refusedText("b0 s1*0", text, 5, 1, k);
            }
            refusedText("b0 s1*2 m9", "b1;h0=3;g0;b2;c3;l0;s9*0;y;x0;y;x0", 5, 9, 8);
        });
    }

    /** What an earlier text had behind the end of a later one is no part of it. */
    private static void behindLongerOnes() {
        String[] shorter = {"", "s", "s5", "s5*", "b", "p", "p0", "p0>", "p0>1", "p0>1=", "h0", "h0=", "y;", "y;b"};
        String[] longer = {"y;y;y;y", "s5*2;y;y", "b3;b0;y", "b0;b0;b0;b0", "s1*1;s1*1"};
        for (String first : longer) {
            for (String text : shorter) {
                RainCellar x = new RainCellar();
                Check.carryOut(x, first);
                isSo("no text", !thrown(x, y -> Check.carryOut(y, text)).equals("nothing"));
                due(text + " behind " + first, text.length(), x.faultPosition());
            }
            RainCellar x = new RainCellar();
            Check.carryOut(x, first);
            due("one behind " + first, 1, Check.carryOut(x, "y"));
        }
        RainCellar x = after("b3 s5*0 b0");
        thrown(x, y -> Check.carryOut(y, "p0>1=15?"));
        due("a digit alone", 1, Check.carryOut(x, "p0>1=1"));
        due("its litres", "3:19#0m3 0:1#0m3", lines(x));
    }

    /** A number with no digit, and with one more than it may have, is a fault. */
    private static void numberAt(String form, int k, boolean isLitres) {
        String ahead = form.substring(0, k);
        String behind = form.substring(k + 1);
        fault(ahead, k);
        fault(ahead + behind, k);
        fault(ahead + "x" + behind, k);
        fault(ahead + (isLitres ? "123" : "12") + behind, isLitres ? k + 2 : k + 1);
    }

    /** Each other character than the due ones is a fault at its place, and so is each end that comes too early. */
    private static void faults(String form, String... due) {
        for (int k = 0; k < due.length; k++) {
            String ahead = form.substring(0, k);
            for (char sign = 0; sign < 256; sign++) {
                if (due[k].indexOf(sign) < 0) {
                    fault(ahead + sign, k);
                }
            }
            String others = form.substring(Math.min(k + 1, form.length()));
            fault(ahead + "?" + others, k);
            fault("y;b2;" + ahead + "?" + others, k + 5);
            if (due[k].indexOf(';') < 0) {
                fault(ahead, k);
                fault("y;b2;" + ahead, k + 5);
            }
        }
    }

    private static void orderOfReasons() {
        says("Reasons. Something is refused for the first that applies of the reasons that its method names, in the"
                + " order in which it names them:", () -> {
            String full = "b0 b0 b0 b0 b0 b0 b0 b0";
            refused(full, 1, 0, x -> x.barrel(4));
            refused("b0", 3, 1, x -> x.pour(1, 1, 0));
            refused("b0", 3, 1, x -> x.pour(0, 1, 0));
            refused("b0", 3, 1, x -> x.pour(1, 0, 0));
            refused("b0", 3, 1, x -> x.pour(-1, -1, 21));
            refused("b0 b1", 8, 1, x -> x.pour(1, 1, 0));
            refused("b0 b1", 8, 0, x -> x.pour(0, 0, 21));
            refused("b0 b1", 8, 0, x -> x.pour(0, 0, 1));
            refused("b0 b1", 1, 0, x -> x.pour(0, 1, 21));
            refused("b0 s1*0 b1 s1*0", 1, 0, x -> x.pour(0, 1, 0));
            refused("b3 b3 s9*0", 1, 0, x -> x.pour(1, 0, 21));
            refused("b0 s1*0 b1 s1*0", 6, 1, x -> x.pour(0, 1, 2));
            refused("b3 s5*0 b0 s2*0", 6, 2, x -> x.pour(1, 0, 3));
            refused("b0 s5*0 b3 s5*0", 9, 1, x -> x.pour(0, 1, 1));
            refused("b0", 3, 1, x -> x.hail(1, 0));
            refused("b0", 1, 0, x -> x.hail(0, 10));
            refused("b0", 6, 0, x -> x.hail(0, 1));
            refused("b3 s5*0", 10, 0, x -> x.hail(0, 1));
            refused("b3 s5*1", 10, 2, x -> x.hail(0, 3));
            refused("m0 m0 m0 m0", 1, 0, x -> x.sommelier(10, false));
            refused("b0", 3, 1, x -> x.drink(1));
            refused("b0", 11, 0, x -> x.drink(0));
        });
    }

    private static void reasonsByNumber() {
        String full = "b0 b1 b2 b3 b0 b1 b2 b3 ";
        says("1, a number is out of range;", () -> {
            refused("b0 b0", 1, 0, x -> x.storm(0, 0));
            refused("b0 b0", 1, 0, x -> x.storm(10, 0));
            refused("b0 b0", 1, 0, x -> x.storm(1, 4));
            refused("b0 b0", 1, 0, x -> x.barrel(4));
            refused("b0 b0 s1*1", 1, 0, x -> x.pour(0, 1, 0));
            refused("b0 b0 s1*1", 1, 0, x -> x.hail(0, 0));
            refused("b0 b0", 1, 0, x -> x.sommelier(10, true));
            refused("b0 b0", 1, 0, x -> x.clear(4));
        });
        says("2, there are as many as there can be: this number;", () -> {
            refused(full, 2, 8, x -> x.barrel(3));
            refused("t9 t9 t9 t9", 2, 4, x -> x.sommelier(9, true));
        });
        says("3, there is no such barrel: how many there are;", () -> {
            for (int count : new int[] {0, 1, 3, 8}) {
                for (int barrel : new int[] {-1, count, count + 1, Integer.MIN_VALUE, Integer.MAX_VALUE}) {
                    String calls = full.substring(0, 3 * count) + "m1";
                    refused(calls, 3, count, x -> x.takeAway(barrel));
                    refused(calls, 3, count, x -> x.pour(barrel, 0, 1));
                    refused(calls, 3, count, x -> x.pour(0, barrel, 1));
                    refused(calls, 3, count, x -> x.hail(barrel, 1));
                    refused(calls, 3, count, x -> x.drink(barrel));
                }
            }
        });
        says("4, there is no such sommelier: how many there are;", () -> {
            for (int count = 0; count <= 4; count++) {
                for (int sommelier : new int[] {-1, count, count + 1, Integer.MIN_VALUE, Integer.MAX_VALUE}) {
                    refused("m0 t1 m2 t3 ".substring(0, 3 * count), 4, count, x -> x.leave(sommelier));
                }
            }
        });
        says("5, the barrel is not empty: its litres;", () -> {
            refused("b0 s1*0", 5, 1, x -> x.takeAway(0));
            refused("b3 b3 s9*0", 5, 20, x -> x.takeAway(0));
            refused("b3 b3 s9*0", 5, 16, x -> x.takeAway(1));
            refused("b0 s1*1 h0=2 b1 p0>1=1", 5, 2, x -> x.takeAway(0));
        });
        says("6, the barrel has fewer litres: how many;", () -> {
            refused("b0 b0", 6, 0, x -> x.pour(0, 1, 1));
            refused("b0 s5*0 b0", 6, 5, x -> x.pour(0, 1, 6));
            refused("b3 b3 s5*0", 6, 0, x -> x.pour(1, 0, 1));
            due("just as many", 5, after("b0 s5*0 b0").pour(0, 1, 5));
            refused("b0 m1", 6, 0, x -> x.drink(0));
            refused("b0 s3*0 m0 m0 m0 m0", 6, 3, x -> x.drink(0));
            due("just as many are drunk", 9, after("b0 s3*0 m0 m0 m0").drink(0));
        });
        says("7, the other barrel has less room: how much;", () -> {
            refused("b3 b0 s5*0", 7, 0, x -> x.pour(1, 0, 1));
            refused("b3 b2 s4*0", 7, 4, x -> x.pour(1, 0, 5));
            due("just as much", 20, after("b3 b2 s4*0").pour(1, 0, 4));
            refused("b3 s5*1", 7, 0, x -> x.hail(0, 1));
            refused("b2 s6*2", 7, 2, x -> x.hail(0, 3));
            due("just as much hail", 10, after("b2 s6*2").hail(0, 2));
        });
        says("8, both barrels are one: the barrel;", () -> {
            refused("b3 s5*0", 8, 0, x -> x.pour(0, 0, 1));
            refused(full + "s1*0", 8, 7, x -> x.pour(7, 7, 1));
        });
        says("9, they are of unlike storms: that of the other one;", () -> {
            refused("b0 s1*0 b1 s1*0", 9, 1, x -> x.pour(0, 1, 1));
            refused("b0 s1*0 b1 s1*0", 9, 0, x -> x.pour(1, 0, 1));
            refused("b0 s1*0 " + "s1*0 ".repeat(12) + "b1 s1*0", 9, 13, x -> x.pour(0, 1, 1));
            due("if it is empty they are not", 1, after("b0 s1*0 b1 s1*0 b2").pour(0, 2, 1));
        });
        says("10, the bucket has less hail: how much;", () -> {
            refused("b0 s1*0", 10, 0, x -> x.hail(0, 1));
            refused("b0 s1*1", 10, 2, x -> x.hail(0, 3));
            refused("b0 s1*3 s1*1", 10, 8, x -> x.hail(0, 9));
            refused("b0 s1*3 y", 10, 0, x -> x.hail(0, 1));
            due("just as much", 66, after("b0 s1*1").hail(0, 2));
        });
        says("11, there are no sommeliers;", () -> {
            refused("b0 s1*0", 11, 0, x -> x.drink(0));
            refused("b0 s1*0 m0 l0", 11, 0, x -> x.drink(0));
        });
        says("12, the roof has no moss: the roof.", () -> {
            for (int roof = 0; roof <= 3; roof++) {
                int r = roof;
                refused("c" + r, 12, r, x -> x.clear(r));
                refused("s9*0", 12, r, x -> x.clear(r));
            }
            due("a little moss", 1, after("c2 y").clear(2));
        });
    }

    private static void reasonIsKept() {
        says("If nothing else is told, the detail is 0.", () -> {
            RainCellar x = after("b0 b0 s7*0");
            refuse(x, y -> y.takeAway(0));
            due("a detail", 7, x.reason(1));
            refuse(x, y -> y.drink(0));
            due("no sommeliers", 0, x.reason(1));
            refuse(x, y -> y.takeAway(0));
            refuse(x, y -> y.storm(10, 0));
            due("out of range", 0, x.reason(1));
            refuse(x, y -> y.takeAway(0));
            refuse(x, y -> y.hail(1, 1));
            due("hail for an empty one", 0, x.reason(1));
        });
        says("The reason is kept with the index of the command of a text, from 0, or 0 for another call.", () -> {
            refusedText("", "x0", 3, 0, 0);
            refusedText("", "y;y;c0;c0;y", 12, 0, 3);
            refusedText("", YEARS + "x0", 3, 0, 29);
            RainCellar x = new RainCellar();
            refuse(x, y -> Check.carryOut(y, "y;b4"));
            due("of the text", 1, x.reason(2));
            refuse(x, y -> y.leave(0));
            due("of another call", 0, x.reason(2));
            due("its reason", 4, x.reason(0));
            Check.carryOut(x, "y;y");
            x.barrel(1);
            due("a question that fails", "NoSuchElementException", thrown(x, y -> y.note(0)));
            due("what goes well, or asks, leaves it", "4 0 0", x.reason(0) + " " + x.reason(1) + " " + x.reason(2));
        });
    }

    private static void changes() {
        says("Changes. What can be undone are the successful calls of storm, barrel, takeAway, pour, hail, sommelier,"
                + " leave, drink, clear, year and commands.", () -> {
            undone(x -> x.storm(1, 0));
            undone(x -> x.storm(9, 3));
            undone(x -> x.barrel(0));
            undone(x -> x.takeAway(3));
            undone(x -> x.pour(0, 1, 1));
            undone(x -> x.pour(0, 3, 16));
            undone(x -> x.hail(1, 1));
            undone(x -> x.sommelier(9, true));
            undone(x -> x.leave(0));
            undone(x -> x.drink(0));
            undone(x -> x.drink(2));
            undone(x -> x.clear(2));
            undone(RainCellar::year);
            undone(x -> Check.carryOut(x, "y"));
            undone(x -> Check.carryOut(x, "b1;l0;t9;g0;c0;c1;h1=1;x3;p0>1=1;s1*3;y"));
            notUndone();
        });
        says("What there was before each of the latest 8 is kept;", () -> {
            for (int changes = 0; changes <= 20; changes++) {
                RainCellar x = after("s1*1 ".repeat(changes));
                int kept = Math.min(changes, 8);
                due("how many are kept", kept, x.account(10));
                for (int left = kept - 1; left >= 0; left--) {
                    due("how many are left", left, x.undo());
                    due("the storms then", changes - kept + left, x.account(5));
                }
                due("no more", "IllegalStateException", thrown(x, RainCellar::undo));
                due("the first that is kept", changes - kept, x.account(5));
            }
            RainCellar x = after("y y y y y y y y y u u u y y s1*0 u y");
            due("changes between undoing", 8, x.account(10));
            due("the year", 9, x.account(4));
            for (int left = 7; left >= 0; left--) {
                due("left", left, x.undo());
                due("the year then", left + 1, x.account(4));
            }
            keptStorms();
            fullCellars();
        });
        says("restore forgets it.", () -> {
            badState("b0 S b1 b2 R", RainCellar::undo);
            due("none is left", 0, after("b0 S b1 b2 R").account(10));
            due("not even when nothing else changed", 0, after("b0 y S R").account(10));
            due("later changes are kept", 2, after("b0 S y y y R y y").account(10));
            due("eight of them", 8, after("b0 S y y y R" + " y".repeat(9)).account(10));
            RainCellar x = after("b0 S y y R c1");
            due("the later one is undone", 0, x.undo());
            due("what was saved is there", seen(after("b0")), seen(x));
        });
    }

    private static void undone(Consumer<RainCellar> change) {
        RainCellar x = after(RICH);
        String before = seen(x);
        change.accept(x);
        isSo("something is changed", !before.equals(seen(x)));
        due("it can be undone", 1, x.account(10));
        isSo("all that is counted is even", x.isEven());
        due("what can be undone then", 0, x.undo());
        due("it is as it was", before, seen(x));
        isSo("and even", x.isEven());
    }

    private static void notUndone() {
        RainCellar x = after(RICH + "y y");
        String before = seen(x);
        for (String text : new String[] {"", "?", "x0", "y;x9", "b0;b0;b0;b0;b0"}) {
            isSo("no text that fails", !thrown(x, y -> Check.carryOut(y, text)).equals("nothing"));
            due("no text that fails", 2, x.account(10));
        }
        isSo("no call that is refused", !thrown(x, y -> y.storm(0, 0)).equals("nothing"));
        x.append('y');
        x.save();
        x.line(0);
        x.panel();
        x.noteIn(0, 20);
        x.hiddenAgain(0);
        due("only the two years", 2, x.account(10));
        due("nothing else", before, seen(x));
        due("the second year", 1, x.undo());
        due("the first year", 0, x.undo());
        due("as before them", seen(after(RICH)), seen(x));
    }

    /** As many barrels, sommeliers and storms as there can be are all brought back. */
    private static void fullCellars() {
        RainCellar x = after("b0 b1 b2 b3 b0 b1 b2 b3 s9*3 s1*0 m1 t2 m3 t4 s2*0 S R");
        String before = seen(x);
        due("the last barrel", "3:16#0m3", line(x, 7));
        due("changes", 6, Check.carryOut(x, "l3;l0;g7;h7=1;y;c3"));
        due("undone", 0, x.undo());
        due("the last barrel and sommelier, too", before, seen(x));
        due("changes", 3, Check.carryOut(x, "g7;l3;t9"));
        due("restored", 8, x.restore());
        due("the last barrel and sommelier, too", before, seen(x));
    }

    /** Storms take the places of earlier ones; undoing brings these back. */
    private static void keptStorms() {
        RainCellar x = after("s1*0 s2*0 s3*0 s4*0 s5*0 s6*0 s7*0 s8*0 s9*0 y s8*0 s7*0 s6*0");
        String before = seen(x);
        due("twelve storms at once", 12, Check.carryOut(x, "s1*0;".repeat(11) + "s1*0"));
        due("all are kept", 1, x.stormOf(12, 0));
        x.undo();
        due("the earlier twelve are back", before, seen(x));
        due("the first of them", 1, x.stormOf(0, 0));
    }

    private static void whatStays() {
        says("The text buffer, the fault position, the reason and the line do not belong to it, and stay.", () -> {
            for (String way : new String[] {"undo", "restore"}) {
                RainCellar x = after("b1 S");
                // Now the year is what is gone again, and all else came later than what is gone back to.
                x.year();
                due("a fault", "IllegalArgumentException", thrown(x, y -> Check.carryOut(y, "y;?")));
                due("a leave", "UnsupportedOperationException", thrown(x, y -> y.leave(0)));
                Check.append(x, "y;b3");
                int length = x.line(0);
                goBack(x, way);
                due("text, fault, reason", "4/2/4 0 0", around(x).substring(2));
                due("the line", "1:0", Check.written(x, length));
                due("the text is whole", 2, x.commands());
                due("and is carried out", "1:0 3:0", lines(x));

                RainCellar z = after("b1 c2 S");
                due("a fault", "IllegalArgumentException", thrown(z, y -> Check.carryOut(y, "y;?")));
                Check.append(z, "b2;b2;c2;y");
                z.clear(1);
                z.panel();
                due("a refusal", "UnsupportedOperationException", thrown(z, RainCellar::commands));
                goBack(z, way);
                due("no text, no fault, the reason", "0/-1/12 2 2", around(z).substring(2));
                due("the empty line", "IndexOutOfBoundsException", thrown(z, y -> y.character(0)));
            }
        });
    }

    private static void goBack(RainCellar x, String way) {
        if (way.equals("undo")) {
            x.undo();
        } else {
            x.restore();
        }
    }

    private static void details() {
        says("Details. Only empty barrels are taken away.", () -> {
            due("an empty one", 0, after("b0").takeAway(0));
            due("one that was emptied", 1, after("b0 s1*0 b1 p0>1=1").takeAway(0));
            refused("b0 s1*0 b1 p0>1=1", 5, 1, x -> x.takeAway(1));
            refused("b0 s1*1 h0=1 b1 p0>1=1", 5, 1, x -> x.takeAway(0));
        });
        says("Into an empty barrel anything can be poured; it has its vintage then, and its moss.", () -> {
            due("all of it", "3:0 0:20#0m3", lines(after("b3 s6*0 b0 p0>1=20")));
            due("a litre", "3:19#0m3 0:1#0m3", lines(after("b3 s6*0 b0 p0>1=1")));
            due("hail alone", "0:1#0m3h1 1:1#0m3 2:1#0m3h1", lines(after("b0 s1*1 h0=2 b1 p0>1=1 b2 p0>2=1")));
            due("where other rain was", "0:1#1m3 1:1#1m3 3:1#0m3",
                    lines(after("b0 s1*0 b1 s1*0 b3 p0>2=1 p1>0=1")));
            due("with the moss of its own roof", "0:0 3:1#0m0", lines(after("c0 b0 s1*0 b3 p0>1=1")));
            due("and its age", 2, after("b0 s1*0 y y b3 p0>1=1").barrelOf(1, 5));
            isSo("it is asked so too", after("b0 s1*0 b3 s1*0 b2").canPour(0, 2));
        });
        says("When rain of one storm is poured together, the moss of the other barrel stays.", () -> {
            due("to and fro", "0:4#0m0 1:11#0m3", lines(after("c0 b0 b1 s5*0 p0>1=3 p1>0=2")));
            due("with hail in both", "0:6#0m0h3 1:6#0m3h3", lines(after("c0 b0 b1 s2*3 h0=2 h1=4 p0>1=2 p1>0=4")));
            due("rain without moss to moss", "0:1#0m0 1:14#0m3", lines(after("c0 b0 b1 s5*0 p0>1=4")));
            due("rain with moss to none", "0:15#0m0 1:0", lines(after("c0 b0 b1 s5*0 p1>0=10")));
        });
        says("Hail makes up room in a barrel as rain does, and is put only into barrels that are not empty.", () -> {
            due("no room is left", "3:20#0m3h4", lines(after("b3 s4*2 h0=4")));
            refused("b3 s4*3 h0=4", 7, 0, x -> x.hail(0, 1));
            refused("b3 b0 s4*2 h0=4", 7, 0, x -> x.pour(1, 0, 1));
            refused("b3 b0 s4*2 h0=3", 7, 1, x -> x.pour(1, 0, 2));
            due("hail is counted among the litres", 20, after("b3 s4*2 h0=4").account(1));
            refused("b3 s4*3 b0", 6, 0, x -> x.hail(1, 1));
            refused("b0 s1*3 b1 p0>1=1", 6, 0, x -> x.hail(0, 1));
            due("to hail alone too", 100, after("b0 s1*2 h0=2 b1 p0>1=1").hail(0, 2));
        });
        says("Rain has the moss that its roof had ahead of the storm.", () -> {
            due("at first", "0:9#0m3", lines(after("b0 s9*0")));
            due("9", "0:9#0m9", lines(after("y y y y y y y b0 s9*0")));
            due("none", "0:9#0m0", lines(after("c0 b0 s9*0")));
            due("each storm", "0:3#0m3 0:3#1m2 0:3#2m1", lines(after("b0 s3*0 b0 s3*0 b0 s3*0")));
            due("later moss does not matter", "0:3#0m3", lines(after("b0 s3*0 y y y c0")));
        });
        says("One who is strict notices as by the palates 10 and 11, too.", () -> {
            RainCellar x = holding(19, 1);
            x.sommelier(9, false);
            x.sommelier(8, true);
            x.sommelier(9, true);
            x.sommelier(7, true);
            due("a part of 5", 6, x.noticing(0));
            due("nothing is hidden from 10", 0, after("b3 s4*3 t8").hidden(0));
            due("nor from 11", 0, after("b3 s4*3 t9").hiddenAgain(0));
            due("no hail is not noticed by 11", 0, after("b3 s4*3 t9").noticing(0));
        });
        says("What the panel drinks is taken together.", () -> {
            RainCellar x = holding(6, 2);
            for (int k = 0; k < 4; k++) {
                x.sommelier(0, false);
            }
            x.drink(0);
            due("4 times 25 is a litre", "3:4#0m3h1", line(x, 0));
            RainCellar y = holding(8, 4);
            y.sommelier(0, false);
            y.sommelier(0, false);
            y.sommelier(0, false);
            y.drink(0);
            due("3 times 33 is none", "3:9#0m3h4", line(y, 0));
        });
        says("Without sommeliers as much hail is hidden as there is, and as there is room for.", () -> {
            hidden("as there is", 6, "b3 s1*3");
            hidden("9 at most", 9, "b3 s1*3 s1*3");
            hidden("none", 0, "b3 s1*0");
            hidden("as there is room for", 4, "b3 s4*3");
            hidden("a litre of room", 1, "b3 s4*3 h0=3");
            hidden("no room", 0, "b3 s5*3");
            hidden("when all have left", 6, "b3 s1*3 t9 l0");
            hidden("to hail alone", 4, "b0 s1*3 h0=2 b1 p0>1=1");
        });
    }

    private static void hidden(String what, int due, String calls) {
        due(what, due, after(calls).hidden(0));
        due(what + ", again", due, after(calls).hiddenAgain(0));
    }

    private static void drawnHail() {
        says("What is poured, or drunk, has as much hail, together, as the part of hail of its barrel gives, rounded"
                + " down, but so much at least that it has no more rain than there is.", () -> {
            for (int rain = 1; rain <= 20; rain++) {
                for (int hail = 0; rain + hail <= 20; hail++) {
                    for (int litres = 1; litres <= rain + hail; litres += rain + hail > 12 ? 3 : 1) {
                        pourOut(holding(rain, hail), rain, hail, litres);
                    }
                    drinkUp(rain, hail);
                }
            }
            for (int hail = 1; hail <= 9; hail++) {
                for (int litres = 1; litres <= hail; litres++) {
                    pourOut(holdingHailAlone(hail), 0, hail, litres);
                }
            }
            due("3 times 33 is none, but the rain is 2", "1:0 0:3#0m3h1", lines(after("b1 s1*1 b0 h0=1 p0>1=3")));
            due("66 is none", "0:2#0m3h2 1:1#0m3", lines(after("b0 s1*1 h0=2 b1 p0>1=1")));
            due("3 times 85 is 2", "0:4#0m3h4 1:3#0m3h2", lines(after("b0 s1*3 h0=6 b1 p0>1=3")));
        });
    }

    private static int hailIn(int rain, int hail, int litres) {
        int byPart = litres * (100 * hail / (rain + hail)) / 100;
        return litres - byPart > rain ? litres - rain : byPart;
    }

    private static void pourOut(RainCellar x, int rain, int hail, int litres) {
        String what = litres + " of " + rain + " and hail " + hail;
        int due = hailIn(rain, hail, litres);
        int to = x.barrel(0);
        x.pour(0, to, litres);
        due(what + ": hail poured", due, x.barrelOf(to, 2));
        due(what + ": litres poured", litres, x.barrelOf(to, 1));
        due(what + ": hail left", hail - due, x.barrelOf(0, 2));
        due(what + ": litres left", rain + hail - litres, x.barrelOf(0, 1));
    }

    /** Those whose palate is 0 do not notice hail up to a part of 50. */
    private static void drinkUp(int rain, int hail) {
        for (int glasses = 1; glasses <= 4 && hail <= rain && glasses <= rain + hail; glasses++) {
            RainCellar x = holding(rain, hail);
            for (int k = 0; k < glasses; k++) {
                x.sommelier(0, false);
            }
            x.drink(0);
            String what = glasses + " of " + rain + " and hail " + hail;
            due(what + ": hail left", hail - hailIn(rain, hail, glasses), x.barrelOf(0, 2));
            due(what + ": litres left", rain + hail - glasses, x.barrelOf(0, 1));
        }
    }

    private static void exceptions() {
        says("Exceptions. A call that throws an exception leaves the state unchanged, unless stated otherwise.", () -> {
            String calls = RICH + "y c3 y";
            noIndex(calls, x -> x.roofOf(4, 0));
            badArgument(calls, x -> x.roofOf(0, 4));
            noIndex(calls, x -> x.barrelOf(9, 0));
            badArgument(calls, x -> x.barrelOf(0, 7));
            noIndex(calls, x -> x.note(9));
            noElement(calls, x -> x.note(3));
            noIndex(calls, x -> x.noteAgain(9));
            noElement(calls, x -> x.noteAgain(3));
            badArgument(calls, x -> x.noteIn(0, 21));
            noIndex(calls, x -> x.notices(2, 0));
            noIndex(calls, x -> x.noticing(9));
            noElement(calls, x -> x.hidden(3));
            noElement(calls, x -> x.hiddenAgain(3));
            badArgument(calls, x -> x.wouldCatch(10));
            badArgument(calls, x -> x.wouldLose(0));
            noElement(calls, x -> x.vintage(2));
            noElement(calls, x -> x.stormOf(2, 0));
            badArgument(calls, x -> x.stormOf(0, 3));
            noIndex(calls, x -> x.canPour(0, 9));
            badArgument(calls, x -> x.ranked(4, 0));
            noElement(calls, x -> x.ranked(0, 9));
            noElement(calls, x -> x.reason(0));
            noIndex(calls, x -> x.line(9));
            noIndex(calls, x -> x.character(99));
            badArgument(calls, x -> x.account(12));
            badState("b0 s1*0 S R", RainCellar::undo);
            badState("b0 s1*0", RainCellar::restore);
            allRefusals();
            afterRefusals();
        });
        says("If several conditions of a method are fulfilled, the one that is listed first determines the exception.",
                () -> {
            noIndex("", x -> x.roofOf(4, 4));
            noIndex("", x -> x.barrelOf(0, 7));
            noIndex("", x -> x.noteIn(0, 21));
            noElement("b0", x -> x.noteIn(0, 21));
            noElement("b0", x -> x.noteIn(0, -1));
            noElement("", x -> x.stormOf(0, 3));
            badArgument("", x -> x.ranked(4, 0));
            badArgument("", x -> x.ranked(-1, -1));
            badArgument("", x -> x.reason(3));
            badArgument("", x -> x.reason(-1));
            RainCellar x = after("b0");
            due("a fault is ahead of a refusal", "IllegalArgumentException", thrown(x, y -> Check.carryOut(y, "x9;?")));
            due("and nothing was refused", "NoSuchElementException", thrown(x, y -> y.reason(0)));
        });
    }

    /** Each reason of each method, in a cellar in which there is something of all that could be lost. */
    private static void allRefusals() {
        String calls = "y b3 b3 b1 s6*1 b0 s1*3 b2 b2 b2 b2 m1 t7 m2 t3 h2=2 c1 S R p0>4=3 h3=1 ";
        refused(calls, 1, 0, x -> x.storm(0, 0));
        refused(calls, 1, 0, x -> x.storm(1, 4));
        refused(calls, 1, 0, x -> x.barrel(4));
        refused(calls, 2, 8, x -> x.barrel(0));
        refused(calls, 3, 8, x -> x.takeAway(8));
        refused(calls, 5, 17, x -> x.takeAway(0));
        refused(calls, 3, 8, x -> x.pour(8, 0, 1));
        refused(calls, 3, 8, x -> x.pour(0, 8, 1));
        refused(calls, 8, 1, x -> x.pour(1, 1, 1));
        refused(calls, 1, 0, x -> x.pour(0, 1, 0));
        refused(calls, 6, 4, x -> x.pour(1, 4, 5));
        refused(calls, 9, 1, x -> x.pour(0, 3, 1));
        refused(calls, 7, 16, x -> x.pour(0, 1, 17));
        refused(calls, 3, 8, x -> x.hail(8, 1));
        refused(calls, 1, 0, x -> x.hail(0, 10));
        refused(calls, 6, 0, x -> x.hail(5, 1));
        refused(calls, 10, 5, x -> x.hail(2, 6));
        refused(calls, 7, 3, x -> x.hail(0, 4));
        refused(calls, 1, 0, x -> x.sommelier(10, true));
        refused(calls, 2, 4, x -> x.sommelier(0, false));
        refused(calls, 4, 4, x -> x.leave(4));
        refused(calls, 3, 8, x -> x.drink(8));
        refused(calls, 6, 2, x -> x.drink(3));
        refused(calls.replaceAll("[mt]\\d ", ""), 11, 0, x -> x.drink(2));
        refused(calls, 1, 0, x -> x.clear(4));
        refused(calls, 12, 1, x -> x.clear(1));
        refusedText(calls, "y;c1;x7;g2;b3;b3", 2, 8, 5);
    }

    /** The line stays, too. */
    private static void afterRefusals() {
        RainCellar x = after("b3 s5*0");
        int length = x.line(0);
        isSo("refused", !thrown(x, y -> y.takeAway(0)).equals("nothing"));
        isSo("no such line", !thrown(x, y -> y.line(1)).equals("nothing"));
        isSo("refused", !thrown(x, y -> Check.carryOut(y, "y;x0")).equals("nothing"));
        due("the line", "3:20#0m3", Check.written(x, length));
        due("no longer", "IndexOutOfBoundsException", thrown(x, y -> y.character(length)));
    }

    private static void refuse(RainCellar x, Consumer<RainCellar> call) {
        due("what is thrown", "UnsupportedOperationException", thrown(x, call));
    }
}
