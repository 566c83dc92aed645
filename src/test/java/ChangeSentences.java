/** The sentences of the promises 1 to 11, each with its test. */
final class ChangeSentences extends Sentences {
    private static final String REFUSED = "Throws `UnsupportedOperationException` if it is refused for the reason ";
    private static final String KEPT = "; the reason is kept";
    private static final String FULL = "b0 b1 b2 b3 b0 b1 b2 b3 ";

    private ChangeSentences() {
    }

    static void check() {
        newObject();
        storm();
        barrel();
        takeAway();
        pour();
        hail();
        sommelier();
        leave();
        drink();
        clear();
        year();
    }

    private static void newObject() {
        part("Promise 1");
        says("Creates a cellar without barrels and sommeliers.", () -> {
            RainCellar x = new RainCellar();
            for (int what = 0; what <= 11; what++) {
                due("account " + what, 0, x.account(what));
            }
            for (int roof = 0; roof <= 3; roof++) {
                due("moss", 3, x.roofOf(roof, 0));
                due("barrels under it", 0, x.roofOf(roof, 1));
            }
            due("the panel", 0, x.panel());
            due("around", "0/0/-1/none", around(x));
            isSo("even", x.isEven());
            due("each object is one of its own", seen(new RainCellar()), seenBesideAnother());
            manyCalls();
        });
    }

    /** What is seen of a new object when another one is changed. */
    private static String seenBesideAnother() {
        RainCellar x = new RainCellar();
        RainCellar other = after("y b3 s9*3 m9 S y");
        due("the other one", "3:20#0m4", lines(other));
        due("nothing saved", "IllegalStateException", thrown(x, RainCellar::restore));
        return seen(x);
    }

    /** An object is good for 512 calls. */
    private static void manyCalls() {
        RainCellar x = after("b3 s1*0");
        for (int call = 3; call <= 508; call++) {
            due("year", 0, x.year());
        }
        due("the age at last", 506, x.barrelOf(0, 5));
        due("the note at last", 9, x.noteAgain(0));
        due("in 20 years", 9, x.noteIn(0, 20));
        due("the moss at last", 9, x.roofOf(0, 0));

        RainCellar y = after("b3");
        for (int call = 2; call <= 509; call++) {
            y.storm(9, 3);
        }
        due("the storms", 508, y.account(5));
        due("what was lost", 508 * 90 - 20, y.account(6));
        due("the last one", 9, y.stormOf(507, 0));

        RainCellar z = new RainCellar();
        for (int text = 0; text < 8; text++) {
            for (int k = 0; k < 59; k++) {
                z.append(k % 2 == 0 ? 'y' : ';');
            }
            due("years at once", 30, z.commands());
        }
        due("all the years", 240, z.account(4));
    }

    private static void storm() {
        part("Promise 2");
        says("Lets a storm go by. - `strength`: its strength - `hail`: its hail Returns how many litres come into"
                + " barrels.", () -> {
            due("without barrels", 0, after("").storm(9, 3));
            due("without empty barrels", 0, after("b0 s1*0").storm(9, 0));
            due("the least", 1, after("b0").storm(1, 0));
            due("the most under one roof", 36, after("b3 b3 b3").storm(9, 0));
            due("the most at all", 90, after("b0 b1 b2 b2 b3 b3").storm(9, 0));
            due("into eight", 50, after(FULL).storm(5, 0));
            RainCellar x = after("b2 b0");
            due("both", 27, x.storm(7, 2));
            due("the barrels", "2:20#0m3 0:7#0m3", lines(x));
            due("the hail", 4, x.account(2));
            due("the moss", 1, x.roofOf(2, 0));
            due("hail does not come into barrels", 1, after("b0").storm(1, 3));
        });
        says(REFUSED + "1" + KEPT, () -> {
            for (int[] wrong : new int[][] {{0, 0}, {10, 0}, {-1, 0}, {1, -1}, {9, 4}, {0, 4}, {10, -1}}) {
                refused("b0 s1*1", 1, 0, x -> x.storm(wrong[0], wrong[1]));
            }
        });
    }

    private static void barrel() {
        part("Promise 3");
        says("Places an empty barrel under a roof. - `roof`: the roof Returns its number.", () -> {
            due("the first", 0, after("").barrel(3));
            due("the last", 7, after("b0 b1 b2 b3 b0 b1 b2").barrel(0));
            RainCellar x = after("b0 s5*1 h0=1");
            due("behind a full one", 1, x.barrel(2));
            due("it is empty", "0:6#0m3h1 2:0", lines(x));
        });
        says(REFUSED + "1 or 2" + KEPT, () -> {
            refused("", 1, 0, x -> x.barrel(-1));
            refused("", 1, 0, x -> x.barrel(4));
            refused(FULL, 1, 0, x -> x.barrel(-1));
            refused(FULL, 2, 8, x -> x.barrel(0));
        });
    }

    private static void takeAway() {
        part("Promise 4");
        says("Takes a barrel away. - `barrel`: the barrel Returns how many there are then.", () -> {
            due("the only one", 0, after("b0").takeAway(0));
            due("one of eight", 7, after(FULL).takeAway(3));
            due("the last of eight", 7, after(FULL).takeAway(7));
            due("one that was emptied", "1:1#0m3", lines(after("b0 s1*0 b1 p0>1=1 x0")));
        });
        says(REFUSED + "3 or 5" + KEPT, () -> {
            refused("", 3, 0, x -> x.takeAway(0));
            refused("b0", 3, 1, x -> x.takeAway(1));
            refused("b0", 3, 1, x -> x.takeAway(-1));
            refused(FULL, 3, 8, x -> x.takeAway(8));
            refused("b0 s1*0", 5, 1, x -> x.takeAway(0));
            refused("b3 s4*2 h0=4", 5, 20, x -> x.takeAway(0));
        });
    }

    private static void pour() {
        part("Promise 5");
        says("Pours from a barrel into another one. - `from`: the one barrel - `to`: the other barrel - `litres`: how"
                + " many litres, 1 to 20 Returns how many the other one has then.", () -> {
            due("1 into an empty one", 1, after("b3 s5*0 b0").pour(0, 1, 1));
            due("20 into an empty one", 20, after("b3 s5*0 b0").pour(0, 1, 20));
            due("back to the first", 20, after("b0 b3 s5*0 b1 p0>2=5").pour(1, 0, 20));
            due("to what is there", 12, after("b0 b1 s4*0").pour(0, 1, 4));
            due("up to the brim", 20, after("b3 b0 s5*0").pour(0, 1, 15));
            due("from a later one", "0:8#0m3 1:4#0m3", lines(after("b0 b1 s4*0 p1>0=4")));
            due("hail to hail", "0:1#0m3h1 1:16#0m3h4", lines(after("b0 b1 s4*3 h0=3 h1=2 p0>1=5 p0>1=1")));
            for (int litres : new int[] {0, 21, -1, Integer.MIN_VALUE, Integer.MAX_VALUE}) {
                refused("b3 s5*0 b0", 1, 0, x -> x.pour(0, 1, litres));
            }
        });
        says(REFUSED + "3, for the one, then for the other, 8, 1, 6, 9, if the other one is not empty, or 7" + KEPT,
                () -> {
            refused("", 3, 0, x -> x.pour(0, 0, 0));
            refused("b0 s1*0", 3, 1, x -> x.pour(1, 0, 1));
            refused("b0 s1*0", 3, 1, x -> x.pour(0, 1, 1));
            refused("b0 s1*0", 3, 1, x -> x.pour(-1, 0, 1));
            refused("b0 s1*0", 3, 1, x -> x.pour(0, -1, 1));
            refused("b0 b1", 8, 1, x -> x.pour(1, 1, 21));
            refused("b0 b1", 1, 0, x -> x.pour(0, 1, 21));
            refused("b0 b1", 6, 0, x -> x.pour(0, 1, 20));
            refused("b0 s1*0 b1 s1*0", 6, 2, x -> x.pour(1, 0, 3));
            refused("b0 s1*0 b1 s1*0", 9, 0, x -> x.pour(1, 0, 2));
            refused("b0 s5*0 b3 s5*0", 9, 1, x -> x.pour(0, 1, 5));
            due("into an empty one of any storm", 1, after("b0 s1*0 b1 s1*0 b2").pour(1, 2, 1));
            refused("b0 b3 s5*0", 7, 0, x -> x.pour(0, 1, 5));
            refused("b2 b3 s4*0", 7, 4, x -> x.pour(0, 1, 12));
            refused("b2 b3 s4*0", 7, 8, x -> x.pour(1, 0, 9));
        });
    }

    private static void hail() {
        part("Promise 6");
        says("Adulterates a barrel with hail. - `barrel`: the barrel - `litres`: how many litres, 1 to 9 Returns its"
                + " part of hail then.", () -> {
            due("1", 20, after("b0 s4*1").hail(0, 1));
            due("9", 90, after("b0 s1*3 s1*3").hail(0, 9));
            due("twice", 42, after("b0 s4*3 h0=1").hail(0, 2));
            RainCellar x = after("b1 b0 s5*3");
            due("the second", 37, x.hail(1, 3));
            due("the barrels", "1:10#0m3 0:8#0m3h3", lines(x));
            due("the bucket", 3, x.account(2));
            for (int litres : new int[] {0, 10, -1, Integer.MIN_VALUE, Integer.MAX_VALUE}) {
                refused("b0 s1*3 s1*3", 1, 0, y -> y.hail(0, litres));
            }
        });
        says(REFUSED + "3, 1, 6, with 0, if it is empty, 10 or 7, for this barrel" + KEPT, () -> {
            refused("s1*3", 3, 0, x -> x.hail(0, 0));
            refused("b0 s1*3", 3, 1, x -> x.hail(1, 1));
            refused("b0 s1*3", 3, 1, x -> x.hail(-1, 1));
            refused("b0", 1, 0, x -> x.hail(0, 0));
            refused("b0", 6, 0, x -> x.hail(0, 9));
            refused("b0 s1*3 b1", 6, 0, x -> x.hail(1, 1));
            refused("b3 s4*1", 10, 2, x -> x.hail(0, 5));
            refused("b3 s4*3", 7, 4, x -> x.hail(0, 6));
            refused("b3 s5*3", 7, 0, x -> x.hail(0, 6));
            refused("b3 s5*3", 10, 6, x -> x.hail(0, 7));
        });
    }

    private static void sommelier() {
        part("Promise 7");
        says("Lets a sommelier come. - `palate`: the palate - `isStrict`: whether the sommelier is strict Returns the"
                + " number of the sommelier.", () -> {
            due("the first", 0, after("").sommelier(0, false));
            due("the last", 3, after("m1 m2 m3").sommelier(9, true));
            due("after one left", 1, after("m1 m2 l0").sommelier(9, true));
            due("behind the others", "m2 t9", Check.panelOf(after("m1 m2 l0 t9")));
        });
        says(REFUSED + "1 or 2" + KEPT, () -> {
            refused("", 1, 0, x -> x.sommelier(-1, false));
            refused("", 1, 0, x -> x.sommelier(10, false));
            refused("m1 m1 m1 m1", 1, 0, x -> x.sommelier(-1, true));
            refused("m1 m1 m1 m1", 2, 4, x -> x.sommelier(9, false));
        });
    }

    private static void leave() {
        part("Promise 8");
        says("Lets a sommelier leave. - `sommelier`: the sommelier Returns how many there are then.", () -> {
            due("the only one", 0, after("m1").leave(0));
            due("the last of four", 3, after("m1 t2 m3 t4").leave(3));
            due("the rest", "m1 m3 t4", Check.panelOf(after("m1 t2 m3 t4 l1")));
            due("who is strict stays so", "t1 m2", Check.panelOf(after("m1 t1 m2 l0")));
        });
        says(REFUSED + "4" + KEPT, () -> {
            refused("", 4, 0, x -> x.leave(0));
            refused("m1", 4, 1, x -> x.leave(1));
            refused("m1", 4, 1, x -> x.leave(-1));
            refused("m1 m2 m3 m4", 4, 4, x -> x.leave(4));
        });
    }

    private static void drink() {
        part("Promise 9");
        says("Lets the panel drink from a barrel. - `barrel`: the barrel Returns its note as they drink, times the"
                + " sommeliers, or 0 if it is exposed.", () -> {
            due("one", 3, after("b0 s1*0 m0").drink(0));
            due("four", 12, after("b3 s1*0 m0 m0 m0 m0").drink(0));
            due("the most", 36, after("y y y y y y b3 s1*0 m0 m0 m0 m0").drink(0));
            due("a note of 0", 0, after("c3 b3 s1*0 m0 m0").drink(0));
            due("with its age", 8, after("b3 s1*0 y y m0 m0").drink(0));
            due("with its hail", 4, after("b3 s2*1 m0 m0 h0=2").drink(0));
            due("as they drink, not as they have drunk", 2, after("b1 s1*1 b0 h0=1 m0").drink(0));
            RainCellar x = after("b0 b3 s2*1 m9 h1=2");
            due("exposed", 0, x.drink(1));
            due("the other one stays", "0:2#0m3 3:0", lines(x));
            due("exposed so far", 1, x.account(9));
            RainCellar y = after("c3 b3 s1*0 m0 m0");
            y.drink(0);
            due("a note of 0 alone exposes nothing", "3:2#0m0", lines(y));
        });
        says(REFUSED + "3, 11 or 6" + KEPT, () -> {
            refused("m1", 3, 0, x -> x.drink(0));
            refused("b0 s1*0 m1", 3, 1, x -> x.drink(1));
            refused("b0 s1*0 m1", 3, 1, x -> x.drink(-1));
            refused("", 3, 0, x -> x.drink(0));
            refused("b0", 11, 0, x -> x.drink(0));
            refused("b0 s1*0", 11, 0, x -> x.drink(0));
            refused("b0 m1", 6, 0, x -> x.drink(0));
            refused("b0 s3*0 m1 m1 m1 m1", 6, 3, x -> x.drink(0));
            refused("b0 s1*1 h0=2 m9 m9 m9 m9", 6, 3, x -> x.drink(0));
        });
    }

    private static void clear() {
        part("Promise 10");
        says("Clears a roof of its moss. - `roof`: the roof Returns how much moss it had.", () -> {
            for (int roof = 0; roof <= 3; roof++) {
                due("at first", 3, after("").clear(roof));
                due("at most", 9, after("y y y y y y y").clear(roof));
                RainCellar x = after("y c" + roof);
                for (int other = 0; other <= 3; other++) {
                    due("then", other == roof ? 0 : 4, x.roofOf(other, 0));
                }
            }
            due("a little", 1, after("s6*0").clear(0));
        });
        says(REFUSED + "1 or 12" + KEPT, () -> {
            refused("", 1, 0, x -> x.clear(-1));
            refused("", 1, 0, x -> x.clear(4));
            refused("c3", 1, 0, x -> x.clear(4));
            refused("c0", 12, 0, x -> x.clear(0));
            refused("c3", 12, 3, x -> x.clear(3));
            refused("s9*0", 12, 2, x -> x.clear(2));
        });
    }

    private static void year() {
        part("Promise 11");
        says("Lets a year go by. Returns how many litres of hail melt.", () -> {
            due("none", 0, after("").year());
            due("six", 6, after("s1*3").year());
            due("the most", 9, after("s1*3 s1*3").year());
            due("none is left", 0, after("s1*3 y").year());
            due("less what is in a barrel", 4, after("b0 s1*3 h0=2").year());
            due("the year then", 3, after("y y y").account(4));
        });
    }
}
