/** The sentences of the document's terms from roofs to glasses, each with its test. */
final class TermSentences extends Sentences {
    private TermSentences() {
    }

    static void check() {
        part("Terms");
        opening();
        roofs();
        barrels();
        storms();
        years();
        notes();
        sommeliers();
        palates();
        glasses();
    }

    private static void opening() {
        says("A vintage is of one storm.", () -> {
            RainCellar x = after("b0 s3*0 b1 s2*0");
            due("barrels", "0:3#0m3 1:4#1m2", lines(x));
            due("the first vintage", 3, x.vintage(0));
            due("the second", 4, x.vintage(1));
            refused("b0 s3*0 b1 s2*0", 9, 1, y -> y.pour(0, 1, 1));
        });
        says("Divisions are rounded down, unless something else is told.", () -> {
            due("a third of 5", 2, after("s5*0").roofOf(0, 0));
            due("a third of 8", 1, after("s8*0").roofOf(0, 0));
            due("the part of 2 in 3", 66, holding(1, 2).barrelOf(0, 6));
            due("half of 3 years", 4, after("b0 s1*0 y y y").note(0));
            due("3 times 34, divided by 100", 1, holding(1, 2).note(0));
            due("3 times 25, divided by 100", 0, holding(1, 3).note(0));
            RainCellar x = holding(2, 1);
            x.pour(0, x.barrel(0), 2);
            due("2 times 33, divided by 100", 0, x.barrelOf(2, 2));
            due("a mean is not", 1.5, after("b0 c1 b1 s1*0").meanNote());
            due("nor is a share", 0.25f, after("b0 s3*1 h0=1").hailShare());
        });
    }

    private static void roofs() {
        says("Roofs. There are the roofs 0 to 3,", () -> {
            for (int roof = 0; roof <= 3; roof++) {
                RainCellar x = after("b" + roof);
                due("the roof of the barrel", roof, x.barrelOf(0, 0));
                due("the barrels under it", 1, x.roofOf(roof, 1));
                due("its moss", 3, x.clear(roof));
            }
            for (int roof : new int[] {-1, 4, Integer.MIN_VALUE, Integer.MAX_VALUE}) {
                refused("b0", 1, 0, x -> x.barrel(roof));
                refused("b0", 1, 0, x -> x.clear(roof));
                noIndex("b0", x -> x.roofOf(roof, 0));
            }
        });
        says("of which the roof r catches r and 1 litres, together, for each strength of a storm.", () -> {
            for (int roof = 0; roof <= 3; roof++) {
                for (int strength = 1; strength <= 9; strength++) {
                    RainCellar x = after("b" + roof + " b" + roof);
                    due("roof " + roof + ", strength " + strength, (roof + 1) * strength, x.storm(strength, 0));
                }
            }
            due("all of them", 10, after("b0 b1 b2 b3").storm(1, 0));
        });
        says("A roof has moss from 0 to 9, at first 3.", () -> {
            for (int roof = 0; roof <= 3; roof++) {
                due("at first", 3, new RainCellar().roofOf(roof, 0));
                due("after 6 years", 9, after("y y y y y y").roofOf(roof, 0));
                due("after 7", 9, after("y y y y y y y").roofOf(roof, 0));
                due("after 30", 9, after("y ".repeat(30)).roofOf(roof, 0));
                due("after 2 storms", 0, after("s9*0 s3*0").roofOf(roof, 0));
                due("when it is cleared", 0, after("c" + roof).roofOf(roof, 0));
            }
        });
    }

    private static void barrels() {
        says("Barrels. At most 8 barrels are there, numbered from 0;", () -> {
            RainCellar x = new RainCellar();
            for (int k = 0; k < 8; k++) {
                due("its number", k, x.barrel(3 - k % 4));
                due("how many there are", k + 1, x.account(0));
            }
            refused("b0 b1 b2 b3 b0 b1 b2 b3", 2, 8, y -> y.barrel(0));
            refusedText("b0 b1 b2 b3 b0 b1 b2", "b3;b0", 2, 8, 1);
            due("in place of one", 7, after("b0 b1 b2 b3 b0 b1 b2 b3 x2").barrel(0));
            noIndex("b0 b1", y -> y.barrelOf(2, 0));
            noIndex("b0 b1", y -> y.barrelOf(-1, 0));
        });
        says("when one is taken away, the numbers of the later ones become 1 less.", () -> {
            String four = "b3 b2 b1 s2*0 b0 ";
            due("ahead of it", "3:8#0m3 2:6#0m3 1:4#0m3 0:0", lines(after(four)));
            due("the first", "2:6#0m3 1:4#0m3 0:8#0m3", lines(after(four + "p0>3=8 x0")));
            due("one between", "3:8#0m3 1:4#0m3 0:6#0m3", lines(after(four + "p1>3=6 x1")));
            due("the last", "3:8#0m3 2:6#0m3 1:4#0m3", lines(after(four + "x3")));
            due("of eight", "1:0 2:0 3:0 0:0 1:0 2:0 3:0", lines(after("b0 b1 b2 b3 b0 b1 b2 b3 x0")));
            due("the last of eight", "0:0 1:0 2:0 3:0 0:0 1:0 2:0", lines(after("b0 b1 b2 b3 b0 b1 b2 b3 x7")));
            due("the age moves too", 1, after("b1 b0 s1*0 b3 y p0>2=2 x0").barrelOf(0, 5));
            due("none is left", 0, after("b0").takeAway(0));
        });
        says("A barrel stands under a roof, has room for 20 litres, and is empty at first.", () -> {
            due("by a storm", 20, after("b3").storm(6, 0));
            due("by a storm of just that", "3:20#0m3", lines(after("b3 s5*0")));
            due("by pouring", 20, after("b3 b0 s5*0").pour(0, 1, 15));
            refused("b3 b0 s5*0", 7, 15, x -> x.pour(0, 1, 16));
            due("by hail", "3:20#0m3h4", lines(after("b3 s4*3 h0=4")));
            refused("b3 s4*3", 7, 4, x -> x.hail(0, 5));
            for (int roof = 0; roof <= 3; roof++) {
                due("at first", roof + ":0", lines(after("b" + roof)));
            }
            due("in place of one that was full", "0:4#0m3 2:0", lines(after("b3 s1*0 b0 p0>1=4 x0 b2")));
        });
        says("One that is not empty has rain of one storm, its vintage, with the moss that its roof had then, and"
                + " perhaps hail, in litres.", () -> {
            RainCellar x = after("y b1 s6*2");
            due("without hail", "1:12#0m4", line(x, 0));
            x.hail(0, 3);
            x.year();
            x.clear(1);
            due("with hail", "1:15#0m4h3", line(x, 0));
            due("a litre", "0:1#0m3", lines(after("b0 s1*0")));
            due("each has the moss of its own roof", "0:1#0m0 1:2#0m3", lines(after("c0 b0 b1 s1*0")));
        });
        says("One that becomes empty has no vintage any more.", () -> {
            for (String calls : new String[] {"b0 s5*0 b1 p0>1=5", "y b0 s2*0 m0 y g0 g0", "b0 s2*3 h0=6 m9 y g0"}) {
                int[] due = {0, 0, 0, -1, 0, 0, 0};
                for (int what = 0; what < due.length; what++) {
                    due(calls + ", barrelOf " + what, due[what], after(calls).barrelOf(0, what));
                }
                due(calls, "0:0", line(after(calls), 0));
                noElement(calls, x -> x.note(0));
            }
            due("nothing of the storm is left", 0, after("b0 s2*0 m0 g0 g0").vintage(0));
            due("the next storm fills it", "0:1#1m2 1:5#0m3", lines(after("b0 s5*0 b1 p0>1=5 s1*0")));
            due("rain of another storm is poured in", "0:1#1m3 1:1#1m3 3:2#0m3",
                    lines(after("b0 s2*0 b1 s1*0 b3 p0>2=2 p1>0=1")));
        });
    }

    private static void storms() {
        says("Storms. A storm has a strength from 1 to 9 and hail from 0 to 3;", () -> {
            for (int strength = 1; strength <= 9; strength++) {
                for (int hail = 0; hail <= 3; hail++) {
                    RainCellar x = after("s" + strength + "*" + hail);
                    due("strength", strength, x.stormOf(0, 0));
                    due("hail", 2 * hail, x.account(2));
                }
            }
            for (int strength : new int[] {0, 10, -1, Integer.MIN_VALUE, Integer.MAX_VALUE}) {
                refused("b0", 1, 0, x -> x.storm(strength, 0));
            }
            for (int hail : new int[] {-1, 4, Integer.MIN_VALUE, Integer.MAX_VALUE}) {
                refused("b0", 1, 0, x -> x.storm(1, hail));
            }
        });
        says("storms are numbered from 0.", () -> {
            due("two storms", "0:1#0m3 1:2#1m3", lines(after("b0 s1*0 b1 s1*0")));
            due("a storm that brings nothing has a number too", "0:1#2m3", lines(after("s1*0 s2*0 b0 s1*0")));
            RainCellar x = after("s1*0");
            due("refused", "UnsupportedOperationException", thrown(x, y -> y.storm(0, 0)));
            x.storm(2, 0);
            due("one that is refused has none", 2, x.stormOf(1, 0));
            due("how many", 2, x.account(5));
        });
        says("What a roof catches goes into the empty barrels under it, by their numbers, as much into each as it has"
                + " room for;", () -> {
            due("more than one has room for", "3:20#0m3 3:16#0m3 3:0", lines(after("b3 b3 b3 s9*0")));
            due("just what one has room for", "3:20#0m3 3:0", lines(after("b3 b3 s5*0")));
            due("a little more", "3:20#0m3 3:4#0m3", lines(after("b3 b3 s6*0")));
            due("a little less", "3:16#0m3 3:0", lines(after("b3 b3 s4*0")));
            due("under two roofs", "2:20#0m3 3:20#0m3 2:7#0m3", lines(after("b2 b3 b2 s9*0")));
            due("under its own roof alone", "1:18#0m3 0:9#0m3 1:0", lines(after("b1 b0 b1 s9*0")));
            due("one with a litre is not empty", "0:1#0m3 0:9#1m3 0:0", lines(after("b0 s1*0 b0 b0 s9*0")));
            due("nor is one with hail alone", 0, after("b0 s1*1 h0=2 b1 p0>1=1").storm(9, 0));
        });
        says("what is over is lost.", () -> {
            due("all", 10, after("s1*0").account(6));
            due("over one barrel", 70, after("b3 s9*0").account(6));
            due("over two", 54, after("b3 b3 s9*0").account(6));
            due("none", 0, after("b0 b1 b2 b3 s5*0").account(6));
            due("a little", 4, after("b0 b1 b2 b3 s6*0").account(6));
            due("of two storms", 30, after("s1*0 s2*0").account(6));
            due("what is lost never comes", "3:20#0m3 3:0", lines(after("b3 s9*0 b3")));
        });
        says("The roof has as much moss less, then, as a third of the strength, but not below 0.", () -> {
            int[] left = {3, 3, 2, 2, 2, 1, 1, 1, 0};
            for (int strength = 1; strength <= 9; strength++) {
                for (int roof = 0; roof <= 3; roof++) {
                    due("strength " + strength, left[strength - 1], after("s" + strength + "*0").roofOf(roof, 0));
                }
            }
            due("with more moss", 6, after("y y y y y y s9*0").roofOf(0, 0));
            due("2 less 3", 0, after("s3*0 s9*0").roofOf(0, 0));
            due("1 less 2", 0, after("s6*0 s6*0").roofOf(3, 0));
            due("0 less 1", 0, after("c1 s3*0").roofOf(1, 0));
            due("then", "0:9#0m3", lines(after("b0 s9*0")));
        });
        says("Of the hail, twice as many litres are put into a bucket, which has 9 litres at most; what is over is"
                + " gone.", () -> {
            for (int hail = 0; hail <= 3; hail++) {
                due("hail " + hail, 2 * hail, after("s1*" + hail).account(2));
            }
            due("6 and 2", 8, after("s1*3 s1*1").account(2));
            due("5 and 4", 9, after("b3 s1*3 h0=1 s1*2").account(2));
            due("6 and 4", 9, after("s1*3 s1*2").account(2));
            due("6 and 6", 9, after("s1*3 s1*3").account(2));
            due("8 and 2", 9, after("s1*3 s1*1 s1*1").account(2));
            due("9 and 6", 9, after("s1*3 s1*3 s1*3").account(2));
            due("9 and 0", 9, after("s1*3 s1*3 s1*0").account(2));
            due("what is over is gone", 8, after("b3 s1*3 s1*3 h0=1").account(2));
        });
    }

    private static void years() {
        says("Years. The year is 0 at first.", () -> {
            due("at first", 0, new RainCellar().account(4));
            due("of the first storm", 0, after("s1*0").stormOf(0, 1));
            due("a year later", 1, after("y").account(4));
        });
        says("The age of a vintage is how many years have gone by since its storm.", () -> {
            RainCellar x = after("y y b0 s1*0 b1 y s1*0 b2");
            for (int years = 0; years < 30; years++) {
                due("the first", years + 1, x.barrelOf(0, 5));
                due("the second", years, x.barrelOf(1, 5));
                due("an empty one", 0, x.barrelOf(2, 5));
                x.year();
            }
            due("poured to another barrel", 2, after("b0 s1*0 y y b1 p0>1=1").barrelOf(1, 5));
        });
        says("When a year goes by, each roof has 1 moss more, up to 9, and the bucket is emptied, as its hail melts.",
                () -> {
            RainCellar x = after("c2 s1*3 s1*3");
            due("what melts", 9, x.year());
            due("the bucket", 0, x.account(2));
            int[] moss = {4, 4, 1, 4};
            for (int years = 0; years < 12; years++) {
                for (int roof = 0; roof <= 3; roof++) {
                    due("moss", Math.min(moss[roof] + years, 9), x.roofOf(roof, 0));
                }
                x.year();
            }
            due("hail in barrels does not melt", "0:2#0m3h1", lines(after("b0 s1*1 h0=1 y")));
        });
    }

    private static void notes() {
        says("Notes. The part of hail of a barrel is 100 times its hail, divided by all its litres.", () -> {
            for (int rain = 1; rain <= 20; rain++) {
                for (int hail = 0; rain + hail <= 20; hail++) {
                    due(hail + " in " + (rain + hail), 100 * hail / (rain + hail), holding(rain, hail).barrelOf(0, 6));
                }
            }
            due("1 in 20", 5, holding(19, 1).barrelOf(0, 6));
            due("19 in 20", 95, holding(1, 19).barrelOf(0, 6));
            due("hail alone", 100, holdingHailAlone(1).barrelOf(0, 6));
            due("none", 0, holding(20, 0).barrelOf(0, 6));
        });
        says("Its note is its moss and half of its age, together, but 9 at most, times what its part of hail lacks of"
                + " 100, divided by 100.", () -> {
            for (int moss = 0; moss <= 9; moss++) {
                for (String hail : new String[] {"", " h0=1", " h0=2", " h0=4"}) {
                    allNotes(moss, hail);
                }
            }
            for (int rain = 1; rain <= 20; rain++) {
                for (int hail = 0; rain + hail <= 20; hail++) {
                    notesOfAges(3, holding(rain, hail), 0);
                }
            }
            due("9 times 22, divided by 100", 1, after("y y y y y y b0 s3*3 s1*3 h0=9 s1*3 h0=2").note(0));
            due("9 times 11, divided by 100", 0, after("y y y y y y b1 s1*3 s1*3 h0=9 s1*3 h0=6 s1*3 h0=2").note(0));
            due("hail alone", 0, holdingHailAlone(3).note(0));
            due("9 at most ahead of the part", 4, after("y y y y y y b3 s1*2 h0=4 y y y y y y y y").note(0));
            due("9 and 2 years", 9, after("y y y y y y b3 s1*2 y y").note(0));
            due("8 and 1 year", 8, after("y y y y y b3 s1*2 y").note(0));
            due("8 and 2 years", 9, after("y y y y y b3 s1*2 y y").note(0));
            due("8 and 4 years", 9, after("y y y y y b3 s1*2 y y y y").note(0));
        });
    }

    private static void allNotes(int moss, String hail) {
        notesOfAges(moss, after("c3 " + "y ".repeat(moss) + "b3 s1*2" + hail), 0);
    }

    private static void notesOfAges(int moss, RainCellar x, int barrel) {
        int part = x.barrelOf(barrel, 6);
        for (int age = 0; age <= 22; age++) {
            int taste = moss + age / 2 > 9 ? 9 : moss + age / 2;
            due("moss " + moss + ", age " + age + ", part " + part, taste * (100 - part) / 100,
                    x.note(barrel));
            x.year();
        }
    }

    private static void sommeliers() {
        says("Sommeliers. At most 4 sommeliers make up the panel, numbered from 0;", () -> {
            RainCellar x = new RainCellar();
            for (int k = 0; k < 4; k++) {
                due("the number", k, x.sommelier(k, k % 2 == 0));
                due("how many", k + 1, x.account(3));
            }
            due("the panel", "t0 m1 t2 m3", Check.panelOf(x));
            refused("m0 m1 t2 t3", 2, 4, y -> y.sommelier(0, false));
            refusedText("m0 m1 t2", "t3;m0", 2, 4, 1);
            due("in place of one", 3, after("m0 m1 m2 m3 l1").sommelier(5, true));
            noIndex("b0 m0 m1", y -> y.notices(2, 0));
            noIndex("b0 m0 m1", y -> y.notices(-1, 0));
        });
        says("when one leaves, the numbers of the later ones become 1 less.", () -> {
            String[] due = {"t2 m3 t4", "m1 m3 t4", "m1 t2 t4", "m1 t2 m3"};
            for (int k = 0; k < 4; k++) {
                due("without " + k, due[k], Check.panelOf(after("m1 t2 m3 t4 l" + k)));
            }
            RainCellar x = holding(4, 1);
            x.sommelier(0, false);
            x.sommelier(9, false);
            due("the second notices", 2, x.noticing(0));
            x.leave(0);
            due("it is the first then", 1, x.noticing(0));
            isSo("by its new number", x.notices(0, 0));
            x.leave(0);
            due("nobody is left", 0, x.account(3));
        });
        says("Each has a palate from 0 to 9, and is mild or strict;", () -> {
            for (int palate = 0; palate <= 9; palate++) {
                due("a mild one", "m" + palate, Check.panelOf(after("m" + palate)));
                due("a strict one", "t" + palate, Check.panelOf(after("t" + palate)));
            }
            for (int palate : new int[] {-1, 10, Integer.MIN_VALUE, Integer.MAX_VALUE}) {
                refused("m1", 1, 0, x -> x.sommelier(palate, false));
                refused("m1", 1, 0, x -> x.sommelier(palate, true));
            }
        });
    }

    private static void palates() {
        says("one who is strict notices as one with a palate 2 more who is mild.", () -> {
            for (int palate = 0; palate <= 7; palate++) {
                for (int hail = 0; hail <= 10; hail++) {
                    RainCellar x = holding(20 - hail - (hail == 0 ? 0 : 1), hail);
                    x.sommelier(palate, true);
                    x.sommelier(palate + 2, false);
                    isSo("strict " + palate + ", hail " + hail, x.notices(0, 0) == x.notices(1, 0));
                }
            }
            RainCellar x = holding(4, 1);
            x.sommelier(5, true);
            x.sommelier(4, true);
            x.sommelier(7, false);
            x.sommelier(6, false);
            due("a part of 20 by 5, 4, strict, and 7, 6, mild", 5, x.noticing(0));
        });
        says("A sommelier notices the hail in a barrel if its part is more than 50 less 5 times the palate;", () -> {
            for (int rain = 1; rain <= 20; rain++) {
                for (int hail = 0; rain + hail <= 20; hail++) {
                    allPalates(holding(rain, hail));
                }
            }
            // The parts that are just 50, 45, .. 5, then the least ones above them.
            int[][] just = {{10, 10}, {11, 9}, {12, 8}, {13, 7}, {14, 6}, {15, 5}, {16, 4}, {17, 3}, {18, 2}, {19, 1}};
            int[][] above = {{9, 10}, {7, 6}, {10, 7}, {7, 4}, {11, 5}, {14, 5}, {15, 4}, {5, 1}, {8, 1}, {15, 1}};
            for (int palate = 0; palate <= 9; palate++) {
                RainCellar x = holding(just[palate][0], just[palate][1]);
                RainCellar y = holding(above[palate][0], above[palate][1]);
                x.sommelier(palate, false);
                y.sommelier(palate, false);
                due("just as much, by " + palate, 50 - 5 * palate, x.barrelOf(0, 6));
                isSo("just as much is not noticed by " + palate, !x.notices(0, 0));
                isSo("more is noticed by " + palate, y.notices(0, 0));
            }
        });
        says("a part of 0 is never noticed.", () -> {
            RainCellar x = after("b0 s5*0 b0 m9 t7 t8 t9");
            for (int k = 0; k < 4; k++) {
                isSo("in rain alone, by " + k, !x.notices(k, 0));
                isSo("in an empty one, by " + k, !x.notices(k, 1));
            }
            due("by nobody", 0, x.noticing(0));
            due("nor as they drink", 12, x.drink(0));
            due("nor in what is hidden", 0, after("b0 s5*0 t9").hidden(0));
        });
    }

    private static void allPalates(RainCellar x) {
        int part = x.barrelOf(0, 6);
        for (int palate = 0; palate <= 9; palate++) {
            x.sommelier(palate, false);
            x.sommelier(palate, true);
            boolean mild = part > 0 && part > 50 - 5 * palate;
            boolean strict = part > 0 && part > 40 - 5 * palate;
            isSo("part " + part + ", mild " + palate, mild == x.notices(0, 0));
            isSo("part " + part + ", strict " + palate, strict == x.notices(1, 0));
            due("part " + part + ", the set", (mild ? 1 : 0) + (strict ? 2 : 0), x.noticing(0));
            x.leave(0);
            x.leave(0);
        }
    }

    private static void glasses() {
        says("Glasses. When the panel drinks from a barrel, each sommelier drinks a litre.", () -> {
            for (int n = 1; n <= 4; n++) {
                RainCellar x = after("b3 s2*0 " + "m0 ".repeat(n));
                x.drink(0);
                due("what is left", 8 - n, x.barrelOf(0, 1));
                due("what is drunk", n, x.account(7));
                RainCellar y = after("b0 s" + n + "*0 " + "t9 ".repeat(n));
                due("a litre for each", 3 * n, y.drink(0));
                due("it is empty then", "0:0", line(y, 0));
                due("all is drunk", n, y.account(7));
            }
            for (int n = 2; n <= 4; n++) {
                refused("b0 s" + (n - 1) + "*0 " + "m0 ".repeat(n), 6, n - 1, x -> x.drink(0));
            }
        });
        says("If one of them notices hail in it as they begin, the barrel is exposed: what is left in it is poured"
                + " away.", () -> {
            for (int k = 0; k < 4; k++) {
                RainCellar x = after("b3 s2*1 h0=2 " + "m0 ".repeat(k) + "m9 " + "m0 ".repeat(3 - k));
                due("the note, as " + k + " notices it", 0, x.drink(0));
                due("the barrel", "3:0", line(x, 0));
                due("drunk", 4, x.account(7));
                due("poured away", 6, x.account(8));
                due("exposed", 1, x.account(9));
            }
            RainCellar x = holding(4, 4);
            x.sommelier(0, false);
            due("50 is not noticed by 0", 1, x.drink(0));
            due("nothing is exposed", 0, x.account(9));
            due("nothing is poured away", 0, x.account(8));
            RainCellar y = after("b3 s2*1 h0=2 m3 m6");
            due("20 as they begin, 25 as they end", 4, y.drink(0));
            due("it was not exposed", 0, y.account(9));
            due("25 as they begin", 0, y.drink(0));
            due("it is exposed", 1, y.account(9));
            RainCellar z = after("b0 s1*1 h0=1 m0 t9");
            due("with nothing left", 0, z.drink(0));
            due("nothing is poured away", 0, z.account(8));
            due("it is exposed all the same", 1, z.account(9));
            RainCellar a = after("b0 s1*1 h0=2 b1 p0>1=1 m0");
            due("hail alone", 0, a.drink(0));
            due("a litre of it is drunk", 1, a.account(7));
            due("the other one is poured away", 1, a.account(8));
        });
    }
}
