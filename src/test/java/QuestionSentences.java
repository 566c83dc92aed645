import java.util.function.ToIntBiFunction;

/** The sentences of the promises 12 to 27, each with its test. */
final class QuestionSentences extends Sentences {
    private static final String NO_BARREL = "Throws `IndexOutOfBoundsException` if there is no such barrel";
    private static final String EMPTY = "Throws `NoSuchElementException` if the barrel is empty";
    private static final String NOTICED = EMPTY + ", or hail is noticed in it now";
    private static final String BAD_STRENGTH = "Throws `IllegalArgumentException` if the strength is out of range";
    private static final int[] NOWHERE = {-1, 2, 3, 8, Integer.MIN_VALUE, Integer.MAX_VALUE};

    private QuestionSentences() {
    }

    static void check() {
        roofOf();
        barrelOf();
        note();
        noteAgain();
        noteIn();
        notices();
        noticing();
        hidden(19, "Returns how many litres of hail at most could be put into a barrel now, as far as there is room"
                + " and hail, so that nobody would notice hail in it: from the most litres down. - `barrel`: the barrel"
                + " Returns how many.", RainCellar::hidden);
        hidden(20, "Returns the same by a second way: litre by litre, by the sommelier with the best palate alone."
                + " - `barrel`: the barrel Returns how many.", RainCellar::hiddenAgain);
        wouldCatch();
        wouldLose();
        vintage();
        stormOf();
        canPour();
        ranked();
        isEven();
    }

    /** There are two barrels, and the question about another one has no answer. */
    private static void noSuchBarrel(ToIntBiFunction<RainCellar, Integer> question) {
        for (int barrel : NOWHERE) {
            noIndex("b0 b0 s2*1 m0", x -> question.applyAsInt(x, barrel));
        }
        noIndex("", x -> question.applyAsInt(x, 0));
        noIndex("b0 s1*0 b1 p0>1=1 x0", x -> question.applyAsInt(x, 1));
    }

    private static void roofOf() {
        part("Promise 12");
        says("Returns a number of a roof. - `roof`: the roof - `what`: 0 for its moss, 1 for the barrels under it, 2"
                + " for how many of these are empty, 3 for the litres in them Returns the number.", () -> {
            RainCellar x = after("b3 b3 b3 b1 c0 s6*1 h3=2");
            int[][] due = {{0, 0, 0, 0}, {1, 1, 0, 14}, {1, 0, 0, 0}, {1, 3, 1, 24}};
            for (int roof = 0; roof <= 3; roof++) {
                for (int what = 0; what <= 3; what++) {
                    due("roof " + roof + ", " + what, due[roof][what], x.roofOf(roof, what));
                }
            }
            RainCellar y = after("b2 b2 b2 b2 b2 b2 b2 b2");
            due("eight barrels", 8, y.roofOf(2, 1));
            due("all empty", 8, y.roofOf(2, 2));
            y.storm(9, 0);
            due("two of them full", 6, y.roofOf(2, 2));
            due("less one that is taken away", 7, after("b2 b2 b2 b2 b2 b2 b2 b2 x7").roofOf(2, 1));
            due("nothing behind the last", 4, after("b3 s1*0 b0 p0>1=4 x0").roofOf(0, 3));
            due("nor where it was", 0, after("b3 s1*0 b0 p0>1=4 x0").roofOf(3, 3));
            due("litres in eight", 36, after("b3 b3 b3 b3 b3 b3 b3 b3 s9*0").roofOf(3, 3));
        });
        says("Throws `IndexOutOfBoundsException` if there is no such roof", () -> {
            for (int roof : new int[] {-1, 4, Integer.MIN_VALUE, Integer.MAX_VALUE}) {
                noIndex("b3", x -> x.roofOf(roof, 0));
                noIndex("b3", x -> x.roofOf(roof, 3));
                noIndex("b3", x -> x.roofOf(roof, 4));
            }
        });
        says("Throws `IllegalArgumentException` if what is not from 0 to 3", () -> {
            for (int what : new int[] {-1, 4, Integer.MIN_VALUE, Integer.MAX_VALUE}) {
                badArgument("b3", x -> x.roofOf(0, what));
                badArgument("b3", x -> x.roofOf(3, what));
            }
        });
    }

    private static void barrelOf() {
        part("Promise 13");
        says("Returns a number of a barrel. - `barrel`: the barrel - `what`: 0 for its roof, 1 for its litres, 2 for"
                + " those of them that are hail, 3 for its storm, -1 if it is empty, 4 for its moss, 0 if it is empty,"
                + " 5 for its age, 0 if it is empty, 6 for its part of hail, 0 if it is empty Returns the number.",
                () -> {
            numbers("y y s1*0 b3 s2*2 h0=3 y y y y", 0, 3, 11, 3, 1, 5, 4, 27);
            numbers("y y s1*0 b3 b2 y y x0", 0, 2, 0, 0, -1, 0, 0, 0);
            numbers("y y b3 s2*2 h0=3 y b1 p0>1=11", 0, 3, 0, 0, -1, 0, 0, 0);
            numbers("y y b3 s2*2 h0=3 y b1 p0>1=11", 1, 1, 11, 3, 0, 5, 1, 27);
            numbers("y b0 s1*1 h0=2 m0 y g0", 0, 0, 0, 0, -1, 0, 0, 0);
            numbers("b0 s1*0", 0, 0, 1, 0, 0, 3, 0, 0);
            numbers("b3 s1*3 s1*3 h0=9", 0, 3, 13, 9, 0, 3, 0, 69);
            numbers("b0 b1 b2 b3 b0 b1 b2 b3 s5*0", 7, 3, 0, 0, -1, 0, 0, 0);
        });
        says(NO_BARREL, () -> {
            noSuchBarrel((x, barrel) -> x.barrelOf(barrel, 0));
            noSuchBarrel((x, barrel) -> x.barrelOf(barrel, 6));
            noSuchBarrel((x, barrel) -> x.barrelOf(barrel, 7));
        });
        says("Throws `IllegalArgumentException` if what is not from 0 to 6", () -> {
            for (int what : new int[] {-1, 7, Integer.MIN_VALUE, Integer.MAX_VALUE}) {
                badArgument("b0", x -> x.barrelOf(0, what));
                badArgument("b0 s1*0", x -> x.barrelOf(0, what));
            }
        });
    }

    private static void numbers(String calls, int barrel, int... due) {
        RainCellar x = after(calls);
        for (int what = 0; what < due.length; what++) {
            due(calls + ": " + what, due[what], x.barrelOf(barrel, what));
        }
    }

    private static void note() {
        part("Promise 14");
        says("Returns the note of a barrel: at once. - `barrel`: the barrel Returns the note.",
                () -> allNotes(RainCellar::note));
        says(NO_BARREL, () -> noSuchBarrel(RainCellar::note));
        says(EMPTY, () -> emptyOnes(RainCellar::note));
    }

    private static void noteAgain() {
        part("Promise 15");
        says("Returns the same by a second way: year by year. - `barrel`: the barrel Returns the note.",
                () -> allNotes(RainCellar::noteAgain));
        says(NO_BARREL, () -> noSuchBarrel(RainCellar::noteAgain));
        says(EMPTY, () -> emptyOnes(RainCellar::noteAgain));
    }

    private static void allNotes(ToIntBiFunction<RainCellar, Integer> note) {
        String nine = "y y y y y y ";
        due("moss alone", 3, note.applyAsInt(after("b0 s1*0"), 0));
        due("none", 0, note.applyAsInt(after("c0 b0 s1*0"), 0));
        due("a year", 3, note.applyAsInt(after("b0 s1*0 y"), 0));
        due("two years", 4, note.applyAsInt(after("b0 s1*0 y y"), 0));
        due("two years without moss", 1, note.applyAsInt(after("c0 b0 s1*0 y y"), 0));
        due("11 years", 8, note.applyAsInt(after("b0 s1*0" + " y".repeat(11)), 0));
        due("12 years", 9, note.applyAsInt(after("b0 s1*0" + " y".repeat(12)), 0));
        due("14 years", 9, note.applyAsInt(after("b0 s1*0" + " y".repeat(14)), 0));
        due("300 years", 9, note.applyAsInt(after("b0 s1*0" + " y".repeat(300)), 0));
        due("9 of moss", 9, note.applyAsInt(after(nine + "b0 s1*0"), 0));
        due("9 of moss and years", 9, note.applyAsInt(after(nine + "b0 s1*0 y y y"), 0));
        due("9 of moss and a fifth", 7, note.applyAsInt(after(nine + "b0 s4*1 h0=1"), 0));
        due("9 of moss, years and half", 4, note.applyAsInt(after(nine + "b0 s4*2 h0=4" + " y".repeat(9)), 0));
        due("3 and a third", 2, note.applyAsInt(after("b0 s2*1 h0=1"), 0));
        due("hail alone", 0, note.applyAsInt(after("b0 s1*1 h0=2 b1 p0>1=1" + " y".repeat(20)), 0));
        due("the second", 1, note.applyAsInt(after("b0 c1 b1 s1*0 y y"), 1));
    }

    private static void emptyOnes(ToIntBiFunction<RainCellar, Integer> question) {
        noElement("b0", x -> question.applyAsInt(x, 0));
        noElement("b0 b0 s1*0", x -> question.applyAsInt(x, 1));
        noElement("b0 s1*0 b1 p0>1=1", x -> question.applyAsInt(x, 0));
        noElement("b0 s1*0 m0 g0", x -> question.applyAsInt(x, 0));
        noElement("b3 s1*1 h0=2 m9 g0", x -> question.applyAsInt(x, 0));
    }

    private static void noteIn() {
        part("Promise 16");
        says("Returns the note that a barrel would have in some years. - `barrel`: the barrel - `years`: how many, 0"
                + " to 20 Returns the note.", () -> {
            for (String hail : new String[] {"", " h0=1", " h0=4"}) {
                for (int age = 0; age <= 15; age++) {
                    RainCellar x = after("c3 y b3 s1*2" + hail + " y".repeat(age));
                    for (int years = 0; years <= 20; years++) {
                        RainCellar later = after("c3 y b3 s1*2" + hail + " y".repeat(age + years));
                        due("in " + years + " from " + age, later.note(0), x.noteIn(0, years));
                    }
                }
            }
            due("at once", 3, after("b0 s1*0").noteIn(0, 0));
            due("in 20", 9, after("b0 s1*0").noteIn(0, 20));
            due("in 19", 9, after("c0 b0 s1*0").noteIn(0, 19));
            due("in 17", 8, after("c0 b0 s1*0").noteIn(0, 17));
            due("a year and a year", 4, after("b0 s1*0 y").noteIn(0, 1));
            RainCellar x = after("b0 s1*3");
            String before = seen(x);
            x.noteIn(0, 20);
            due("no year goes by", before, seen(x));
        });
        says(NO_BARREL, () -> {
            noSuchBarrel((x, barrel) -> x.noteIn(barrel, 0));
            noSuchBarrel((x, barrel) -> x.noteIn(barrel, 21));
        });
        says(EMPTY, () -> {
            emptyOnes((x, barrel) -> x.noteIn(barrel, 0));
            emptyOnes((x, barrel) -> x.noteIn(barrel, 21));
        });
        says("Throws `IllegalArgumentException` if the years are out of range", () -> {
            for (int years : new int[] {-1, 21, Integer.MIN_VALUE, Integer.MAX_VALUE}) {
                badArgument("b0 s1*0 y y", x -> x.noteIn(0, years));
            }
        });
    }

    private static void notices() {
        part("Promise 17");
        says("Returns whether a sommelier notices hail in a barrel, false if it is empty. - `sommelier`: the sommelier"
                + " - `barrel`: the barrel Returns whether this is so.", () -> {
            RainCellar x = after("b0 s4*1 b1 h0=1 m6 m7 t4 t5");
            boolean[] due = {false, true, false, true};
            for (int k = 0; k < 4; k++) {
                isSo("a part of 20, by " + k, due[k] == x.notices(k, 0));
                isSo("an empty one, by " + k, !x.notices(k, 1));
            }
            isSo("one that was emptied", !after("b0 s1*1 h0=2 b1 p0>1=3 t9").notices(0, 0));
            isSo("what was poured from it", after("b0 s1*1 h0=2 b1 p0>1=3 t9").notices(0, 1));
            isSo("50 by 0", !after("b0 s1*1 h0=1 m0").notices(0, 0));
            isSo("66 by 0", after("b0 s1*1 h0=2 m0").notices(0, 0));
            isSo("rain alone", !after("b0 s1*1 t9").notices(0, 0));
        });
        says("Throws `IndexOutOfBoundsException` if there is no such sommelier or barrel", () -> {
            for (int sommelier : NOWHERE) {
                noIndex("b0 s1*0 m0 m0", x -> x.notices(sommelier, 0));
                noIndex("b0 s1*0 m0 m0", x -> x.notices(sommelier, 9));
            }
            noIndex("b0 s1*0 m0 m0 l0", x -> x.notices(1, 0));
            noIndex("b0 s1*0", x -> x.notices(0, 0));
            noSuchBarrel((x, barrel) -> x.notices(0, barrel) ? 1 : 0);
        });
    }

    private static void noticing() {
        part("Promise 18");
        says("Returns the sommeliers who notice hail in a barrel. - `barrel`: the barrel Returns the set of them, bit k"
                + " for the sommelier k.", () -> {
            for (int set = 0; set < 16; set++) {
                StringBuilder calls = new StringBuilder("b0 s4*1 h0=1 b1");
                for (int k = 0; k < 4; k++) {
                    calls.append((set >> k) % 2 == 0 ? " t4" : " m7");
                }
                due("the set", set, after(calls.toString()).noticing(0));
                due("in an empty one", 0, after(calls.toString()).noticing(1));
            }
            due("without sommeliers", 0, after("b0 s1*1 h0=2").noticing(0));
            due("nobody who has left", 0, after("b0 s1*1 h0=2 m9 m9 l0 l0").noticing(0));
            due("of two", 3, after("b0 s1*1 h0=2 m9 m9").noticing(0));
        });
        says(NO_BARREL, () -> noSuchBarrel(RainCellar::noticing));
    }

    private static void hidden(int promise, String words, ToIntBiFunction<RainCellar, Integer> question) {
        part("Promise " + promise);
        says(words, () -> {
            due("3 in 11 is 27, more than 25", 2, question.applyAsInt(after("b1 s4*3 m5"), 0));
            due("2 in 10 is 20, just 20", 2, question.applyAsInt(after("b1 s4*3 m6"), 0));
            due("7 in 14 is just 50", 7, question.applyAsInt(after("b0 s7*3 s1*3 m0"), 0));
            due("a litre in 5 is 20", 0, question.applyAsInt(after("b0 s4*3 m7"), 0));
            due("as much as there is", 6, question.applyAsInt(after("b2 s4*3 m0"), 0));
            due("as there is room for", 2, question.applyAsInt(after("b2 s6*3 m0"), 0));
            due("no room", 0, question.applyAsInt(after("b3 s5*3 m0"), 0));
            due("no hail", 0, question.applyAsInt(after("b3 s1*0 m0"), 0));
            due("two litres of hail", 2, question.applyAsInt(after("b3 s2*1 m0"), 0));
            due("with hail in it", 1, question.applyAsInt(after("b1 s4*3 m5 h0=1"), 0));
            due("with all of it in it", 0, question.applyAsInt(after("b1 s4*3 m5 h0=2"), 0));
            due("by the best of four", 2, question.applyAsInt(after("b1 s4*3 m0 m5 m1 m2"), 0));
            due("the best is strict", 2, question.applyAsInt(after("b1 s4*3 m4 t3 m0"), 0));
            due("the best is the last", 2, question.applyAsInt(after("b1 s4*3 m0 t0 m1 t3"), 0));
            due("the best is mild", 2, question.applyAsInt(after("b1 s4*3 t2 m6"), 0));
            due("without sommeliers", 6, question.applyAsInt(after("b1 s4*3"), 0));
            RainCellar x = after("b1 s4*3 m5");
            String before = seen(x);
            question.applyAsInt(x, 0);
            due("nothing is put in", before, seen(x));
            hiddenEverywhere(question);
        });
        says(NO_BARREL, () -> noSuchBarrel(question));
        says(NOTICED, () -> {
            emptyOnes(question);
            noElement("b0 s4*1 h0=1 m7", y -> question.applyAsInt(y, 0));
            noElement("b0 s4*1 h0=1 m0 t5", y -> question.applyAsInt(y, 0));
            noElement("b0 s1*1 h0=2 b1 p0>1=1 m0", y -> question.applyAsInt(y, 0));
            noElement("b3 s4*2 h0=4 t9", y -> question.applyAsInt(y, 0));
            noElement("b3 s1*2 h0=4 t9", y -> question.applyAsInt(y, 0));
            due("20 is not noticed by 6", 0, question.applyAsInt(after("b0 s4*1 h0=1 m6"), 0));
        });
    }

    /** Tries each barrel that can be made with what is told to be hidden, and with a litre more. */
    private static void hiddenEverywhere(ToIntBiFunction<RainCellar, Integer> question) {
        for (int rain = 1; rain <= 20; rain++) {
            for (int hail = 0; rain + hail <= 20 && hail <= rain; hail++) {
                RainCellar x = holding(rain, hail);
                x.sommelier(0, false);
                x.sommelier((rain + hail) % 10, hail % 3 == 0);
                if (x.noticing(0) == 0) {
                    tryHidden(x, question.applyAsInt(x, 0), Math.min(x.account(2), 20 - rain - hail));
                }
            }
        }
    }

    private static void tryHidden(RainCellar x, int litres, int most) {
        if (litres < most) {
            x.hail(0, litres + 1);
            isSo("one more is noticed", x.noticing(0) != 0);
            x.undo();
        }
        isSo("no more than there can be", litres <= most);
        if (litres > 0) {
            x.hail(0, litres);
            due("it is hidden", 0, x.noticing(0));
        }
    }

    private static void wouldCatch() {
        part("Promise 21");
        says("Returns how many litres a storm would bring into barrels. - `strength`: its strength Returns how many.",
                () -> {
            for (String calls : new String[] {"", "b0", "b3", "b3 b3", "b0 b1 b2 b3", "b2 b2 b0 s5*0 b3 b1",
                "b3 s1*0", "b3 s1*0 b0 p0>1=4", "b0 b1 b2 b3 b3 b2 b1 b0"}) {
                for (int strength = 1; strength <= 9; strength++) {
                    RainCellar x = after(calls);
                    String before = seen(x);
                    int would = x.wouldCatch(strength);
                    due("nothing changes", before, seen(x));
                    due("strength " + strength, x.storm(strength, 0), would);
                }
            }
            due("the least", 1, after("b0").wouldCatch(1));
            due("the room of one", 20, after("b3").wouldCatch(9));
            due("just the room of one", 20, after("b3").wouldCatch(5));
            due("all", 90, after("b0 b1 b2 b2 b3 b3").wouldCatch(9));
            due("none", 0, after("b0 s1*0").wouldCatch(9));
        });
        says(BAD_STRENGTH, () -> {
            for (int strength : new int[] {0, 10, -1, Integer.MIN_VALUE, Integer.MAX_VALUE}) {
                badArgument("b0", x -> x.wouldCatch(strength));
            }
        });
    }

    private static void wouldLose() {
        part("Promise 22");
        says("Returns how many litres of what roofs catch would be lost in a storm. - `strength`: its strength Returns"
                + " how many.", () -> {
            for (String calls : new String[] {"", "b0", "b3", "b3 b3", "b0 b1 b2 b3", "b2 b2 b0 s5*0 b3 b1",
                "b3 s1*0", "b3 s1*0 b0 p0>1=4", "b0 b1 b2 b3 b3 b2 b1 b0"}) {
                for (int strength = 1; strength <= 9; strength++) {
                    RainCellar x = after(calls);
                    int lostBefore = x.account(6);
                    String before = seen(x);
                    int would = x.wouldLose(strength);
                    due("nothing changes", before, seen(x));
                    x.storm(strength, 0);
                    due("strength " + strength, x.account(6) - lostBefore, would);
                }
            }
            due("all", 90, after("").wouldLose(9));
            due("the least", 10, after("").wouldLose(1));
            due("none", 0, after("b0 b1 b2 b2 b3 b3").wouldLose(9));
            due("from full barrels all", 10, after("b0 s9*0").wouldLose(1));
        });
        says(BAD_STRENGTH, () -> {
            for (int strength : new int[] {0, 10, -1, Integer.MIN_VALUE, Integer.MAX_VALUE}) {
                badArgument("b0", x -> x.wouldLose(strength));
            }
        });
    }

    private static void vintage() {
        part("Promise 23");
        says("Returns how many litres of a storm are in barrels, hail included. - `storm`: the storm Returns how"
                + " many.", () -> {
            RainCellar x = after("b0 b1 s2*2 h1=3 b2 s1*0 s1*0");
            due("in two barrels", 9, x.vintage(0));
            due("in one", 3, x.vintage(1));
            due("in none", 0, x.vintage(2));
            due("poured to another", 9, after("b0 b1 s2*2 h1=3 b2 p1>2=5").vintage(0));
            due("less what is drunk", 5, after("b0 b1 s2*2 h1=3 m0 m0 g0 g1").vintage(0));
            due("all is drunk", 0, after("b0 s1*0 m0 g0").vintage(0));
            due("poured away", 0, after("b3 s1*2 h0=4 m9 g0").vintage(0));
            due("long ago", 1, after("b0" + " s1*0".repeat(14)).vintage(0));
            due("from a barrel taken away", 5, after("b0 b3 s1*0 p0>1=1 x0").vintage(0));
            due("none behind the last", 4, after("b3 s1*0 b0 p0>1=4 x0").vintage(0));
            due("hail alone", 3, after("b0 s1*1 h0=2 b1 p0>1=1").vintage(0));
        });
        says("Throws `NoSuchElementException` if there was no such storm", () -> {
            noElement("", x -> x.vintage(0));
            noElement("", x -> x.vintage(-1));
            noElement("b0", x -> x.vintage(-1));
            noElement("b0 s1*0", x -> x.vintage(1));
            noElement("b0 s1*0 b0", x -> x.vintage(-1));
            noElement("b0 s1*0 s1*0 u", x -> x.vintage(1));
            noElement("b0 s1*0", x -> x.vintage(Integer.MIN_VALUE));
            noElement("b0 s1*0", x -> x.vintage(Integer.MAX_VALUE));
            due("the last one", 0, after("b0 s1*0 s1*0").vintage(1));
        });
    }

    private static void stormOf() {
        part("Promise 24");
        says("Returns a number of a storm. - `storm`: the storm - `what`: 0 for its strength, 1 for the year in which"
                + " it was, 2 for how many litres came into barrels Returns the number.", () -> {
            StringBuilder calls = new StringBuilder();
            for (int storm = 0; storm < 40; storm++) {
                calls.append("s").append(storm % 9 + 1).append("*0 y ").append(storm < 8 ? "b0 " : "");
                RainCellar x = after(calls.toString());
                for (int back = 0; back < 12 && back <= storm; back++) {
                    int k = storm - back;
                    due("strength of " + k, k % 9 + 1, x.stormOf(k, 0));
                    due("year of " + k, k, x.stormOf(k, 1));
                    due("litres of " + k, k == 0 || k > 8 ? 0 : k % 9 + 1, x.stormOf(k, 2));
                }
            }
            due("what came in, though it is drunk", 4, after("b3 s1*0 m0 g0 g0").stormOf(0, 2));
            due("without the hail", 4, after("b3 s1*1 h0=2").stormOf(0, 2));
            due("the most", 90, after("b0 b1 b2 b2 b3 b3 s9*3").stormOf(0, 2));
        });
        says("Throws `NoSuchElementException` if it is none of the latest 12", () -> {
            noElement("", x -> x.stormOf(0, 0));
            noElement("", x -> x.stormOf(-1, 0));
            noElement("s1*0", x -> x.stormOf(1, 0));
            noElement("s1*0", x -> x.stormOf(-1, 3));
            due("the first of 12", 5, after("s5*0" + " s1*0".repeat(11)).stormOf(0, 0));
            noElement("s5*0" + " s1*0".repeat(12), x -> x.stormOf(0, 0));
            due("the second of 13", 4, after("s5*0 s4*0" + " s1*0".repeat(11)).stormOf(1, 0));
            noElement("s5*0 s4*0" + " s1*0".repeat(23), x -> x.stormOf(12, 0));
            noElement("s5*0 s4*0" + " s1*0".repeat(23), x -> x.stormOf(25, 0));
            noElement("s5*0" + " s1*0".repeat(12), x -> x.stormOf(Integer.MIN_VALUE, 0));
            noElement("s5*0" + " s1*0".repeat(12), x -> x.stormOf(Integer.MAX_VALUE, 0));
            due("again the first of 12", 5, after("s5*0" + " s1*0".repeat(12) + " u").stormOf(0, 0));
        });
        says("Throws `IllegalArgumentException` if what is not from 0 to 2", () -> {
            for (int what : new int[] {-1, 3, Integer.MIN_VALUE, Integer.MAX_VALUE}) {
                badArgument("s1*0", x -> x.stormOf(0, what));
                noElement("s1*0", x -> x.stormOf(1, what));
            }
        });
    }

    private static void canPour() {
        part("Promise 25");
        says("Returns whether a litre could be poured from a barrel into another one. - `from`: the one barrel - `to`:"
                + " the other barrel Returns whether it could.", () -> {
            isSo("into an empty one", after("b0 s1*0 b1").canPour(0, 1));
            isSo("from an empty one", !after("b0 s1*0 b1").canPour(1, 0));
            isSo("both empty", !after("b0 b1").canPour(0, 1));
            isSo("into itself", !after("b0 s1*0").canPour(0, 0));
            isSo("an empty one into itself", !after("b0").canPour(0, 0));
            isSo("of one storm", after("b0 b1 s1*0").canPour(0, 1));
            isSo("of one storm, back", after("b0 b1 s1*0").canPour(1, 0));
            isSo("of unlike storms", !after("b0 s1*0 b1 s1*0").canPour(0, 1));
            isSo("of unlike storms, back", !after("b0 s1*0 b1 s1*0").canPour(1, 0));
            isSo("no room", !after("b3 b0 s5*0").canPour(1, 0));
            isSo("from a full one", after("b3 b0 s5*0").canPour(0, 1));
            isSo("a litre of room", after("b3 b0 s5*0 b1 p0>2=1").canPour(1, 0));
            isSo("no room for hail", !after("b3 b0 s4*2 h0=4").canPour(1, 0));
            isSo("a litre of hail", after("b0 s1*1 h0=1 b1 p0>1=1 b2").canPour(0, 2));
            canPourEverywhere();
        });
        says("Throws `IndexOutOfBoundsException` if there is no such barrel, for either", () -> {
            noSuchBarrel((x, barrel) -> x.canPour(barrel, 0) ? 1 : 0);
            noSuchBarrel((x, barrel) -> x.canPour(0, barrel) ? 1 : 0);
            noSuchBarrel((x, barrel) -> x.canPour(barrel, barrel) ? 1 : 0);
        });
    }

    private static void canPourEverywhere() {
        String calls = "b3 b3 b0 s9*1 b1 s1*0 b2 h1=2 p0>4=3";
        for (int from = 0; from < 5; from++) {
            for (int to = 0; to < 5; to++) {
                RainCellar x = after(calls);
                boolean could = x.canPour(from, to);
                int a = from;
                int b = to;
                isSo(from + " to " + to, could == thrown(x, y -> y.pour(a, b, 1)).equals("nothing"));
            }
        }
    }

    private static void ranked() {
        part("Promise 26");
        says("Returns a barrel by a measure: the greatest first, of several the lowest. - `measure`: 0 for the litres,"
                + " 1 for the note, 0 if it is empty, 2 for the age, 3 for the part of hail - `place`: the place in"
                + " this order, from 0 Returns the barrel.", () -> {
            // The barrels are 0: 0:2#0m0, 1: 1:5#0m3h1, 2: 2:4#1m4h1, 3: 3:4#1m4, 4: 2:0.
            String calls = "b0 b1 c0 s2*2 y b2 b3 b2 s1*1 h1=1 h2=1";
            order(calls, 0, 1, 2, 3, 0, 4);
            order(calls, 1, 3, 2, 1, 0, 4);
            order(calls, 2, 0, 1, 2, 3, 4);
            order(calls, 3, 2, 1, 0, 3, 4);
            for (int measure = 0; measure <= 3; measure++) {
                order("b0 b1 b2 b3 b0 b1 b2 b3", measure, 0, 1, 2, 3, 4, 5, 6, 7);
                order("b1", measure, 0);
            }
            order("b3 b3 b3 b3 b3 b3 b3 b3 s9*0", 0, 0, 1, 2, 3, 4, 5, 6, 7);
            order("b0 b1 b2 b3 s1*0", 0, 3, 2, 1, 0);
            order("b0 b0 c1 b1 s1*0", 1, 0, 1, 2);
            order("c0 b0 s1*0 y y y b1 s1*0 b2", 1, 1, 0, 2);
            order("b0 b1 s1*0 y b0 s1*0 y b3 b3 s1*0", 2, 0, 1, 2, 3, 4);
            order("b0 s1*0 b1 y p0>1=1", 2, 1, 0);
            order("b0 b1 b2 s1*3 h1=2 h2=3", 3, 1, 2, 0);
            order("b0 s1*1 h0=2 b1 p0>1=1", 1, 1, 0);
        });
        says("Throws `IllegalArgumentException` if there is no such measure", () -> {
            for (int measure : new int[] {-1, 4, Integer.MIN_VALUE, Integer.MAX_VALUE}) {
                badArgument("b0 s1*0", x -> x.ranked(measure, 0));
                badArgument("b0 s1*0", x -> x.ranked(measure, 1));
                badArgument("", x -> x.ranked(measure, 0));
            }
        });
        says("Throws `NoSuchElementException` if there is no such place", () -> {
            for (int measure = 0; measure <= 3; measure++) {
                int m = measure;
                for (int place : NOWHERE) {
                    noElement("b0 s1*0 b1", x -> x.ranked(m, place));
                }
                noElement("", x -> x.ranked(m, 0));
                noElement("b0 b1 b2 b3 b0 b1 b2 b3", x -> x.ranked(m, 8));
                noElement("b0 b1 x0", x -> x.ranked(m, 1));
            }
        });
    }

    private static void order(String calls, int measure, int... due) {
        RainCellar x = after(calls);
        for (int place = 0; place < due.length; place++) {
            due(calls + ": measure " + measure + ", place " + place, due[place], x.ranked(measure, place));
        }
        due("no more places", due.length, x.account(0));
    }

    private static void isEven() {
        part("Promise 27");
        says("Returns whether the litres that came into barrels so far, and the hail put into them, are those in"
                + " barrels, those drunk, and those poured away, together. Returns whether this is so.", () -> {
            isSo("at first", new RainCellar().isEven());
            String calls = "b3 b0 s4*3 h0=2 p0>1=5 b1 p1>2=3 m0 m0 g0 g2 h1=2 t9 g1 y s1*2 b2 x3 c2 S s5*1 u g0 R l0 l0"
                    + " g0";
            RainCellar x = new RainCellar();
            for (String call : calls.split(" ")) {
                Check.call(x, call);
                isSo("after " + call, x.isEven());
            }
            due("litres drunk", 8, x.account(7));
            due("litres poured away", 15, x.account(8));
            due("litres left", 2, x.account(1));
        });
    }
}
