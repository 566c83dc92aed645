/** Promises 1 to 11: a new object, and the changes with their refusals. */
public final class ChangeTests {
    private ChangeTests() {
    }

    public static void main(String[] args) {
        newObject();
        stormFillsEmptyBarrels();
        stormTakesMossAndBringsHail();
        stormIsRefused();
        barrelIsPlaced();
        barrelIsTakenAway();
        pourMovesRain();
        pourMovesHailByThePart();
        pourIsRefused();
        hailIsPutIn();
        hailIsRefused();
        sommeliersComeAndLeave();
        panelDrinks();
        panelExposes();
        drinkIsRefused();
        roofIsCleared();
        yearGoesBy();
        Check.finish();
    }

    private static void newObject() {
        RainCellar x = new RainCellar();
        for (int what = 0; what <= 11; what++) {
            Check.equal("new: account " + what, 0, x.account(what));
        }
        for (int roof = 0; roof < 4; roof++) {
            Check.equal("new: moss of " + roof, 3, x.roofOf(roof, 0));
            Check.equal("new: barrels under " + roof, 0, x.roofOf(roof, 1));
        }
        Check.equal("new: fault position", -1, x.faultPosition());
        Check.noElement("new: reason", () -> x.reason(0));
        Check.outOfBounds("new: line", () -> x.character(0));
        Check.equal("new: panel", 0, x.panel());
        Check.that("new: even", x.isEven());
    }

    private static void stormFillsEmptyBarrels() {
        RainCellar x = new RainCellar();
        Check.equal("storm on no barrels", 0, x.storm(1, 0));
        Check.equal("lost of it", 10, x.account(6));
        x.barrel(0);
        x.barrel(1);
        x.barrel(3);
        x.barrel(3);
        x.barrel(2);
        x.barrel(3);
        Check.equal("storm 9 on six", 9 + 18 + 20 + 16 + 20, x.storm(9, 0));
        Check.equal("lost then", 10 + 7, x.account(6));
        String[] due = {"0:9#1m3", "1:18#1m3", "3:20#1m3", "3:16#1m3", "2:20#1m3", "3:0"};
        for (int k = 0; k < due.length; k++) {
            Check.equal("barrel " + k, due[k], Check.lineOf(x, k));
        }
        Check.equal("the one left empty has no storm", -1, x.barrelOf(5, 3));
        Check.equal("the next storm fills only that", 8, x.storm(2, 0));
        Check.equal("that one", "3:8#2m0", Check.lineOf(x, 5));
        Check.equal("a full one stays", "0:9#1m3", Check.lineOf(x, 0));
        Check.equal("lost at last", 17 + 12, x.account(6));
    }

    private static void stormTakesMossAndBringsHail() {
        RainCellar x = new RainCellar();
        x.barrel(1);
        x.storm(2, 1);
        Check.equal("2 takes no moss", 3, x.roofOf(1, 0));
        Check.equal("bucket after 1", 2, x.account(2));
        x.storm(3, 3);
        Check.equal("3 takes one", 2, x.roofOf(1, 0));
        Check.equal("also where no barrel is", 2, x.roofOf(3, 0));
        Check.equal("bucket after 3 more", 8, x.account(2));
        x.storm(8, 1);
        Check.equal("8 takes two", 0, x.roofOf(0, 0));
        Check.equal("bucket is full", 9, x.account(2));
        x.storm(9, 0);
        Check.equal("not below 0", 0, x.roofOf(0, 0));
        Check.equal("no hail, no change", 9, x.account(2));
    }

    private static void stormIsRefused() {
        RainCellar x = new RainCellar();
        x.barrel(0);
        int[][] wrong = {{0, 0}, {10, 0}, {-1, 0}, {1, -1}, {1, 4}, {Integer.MIN_VALUE, 0}, {5, Integer.MAX_VALUE}};
        for (int[] pair : wrong) {
            Check.refused("storm " + pair[0] + " " + pair[1], x, 1, 0, () -> x.storm(pair[0], pair[1]));
        }
        Check.equal("none was numbered", 0, x.account(5));
        Check.equal("the least", 1, x.storm(1, 0));
    }

    private static void barrelIsPlaced() {
        RainCellar x = new RainCellar();
        Check.refused("barrel -1", x, 1, 0, () -> x.barrel(-1));
        Check.refused("barrel 4", x, 1, 0, () -> x.barrel(4));
        for (int k = 0; k < 8; k++) {
            Check.equal("barrel " + k, k, x.barrel(k % 4));
            Check.equal("its roof", k % 4, x.barrelOf(k, 0));
        }
        Check.refused("a ninth", x, 2, 8, () -> x.barrel(0));
        Check.refused("a ninth under no roof", x, 1, 0, () -> x.barrel(4));
    }

    private static void barrelIsTakenAway() {
        RainCellar x = new RainCellar();
        Check.refused("takeAway of none", x, 3, 0, () -> x.takeAway(0));
        x.barrel(0);
        x.barrel(1);
        x.barrel(2);
        x.barrel(3);
        Check.refused("takeAway -1", x, 3, 4, () -> x.takeAway(-1));
        Check.refused("takeAway 4", x, 3, 4, () -> x.takeAway(4));
        Check.equal("one away", 3, x.takeAway(1));
        x.year();
        x.clear(0);
        x.clear(2);
        x.clear(3);
        x.year();
        x.year();
        x.year();
        x.storm(2, 0);
        Check.refused("takeAway of a full one", x, 5, 6, () -> x.takeAway(1));
        x.barrel(1);
        x.pour(0, 3, 2);
        Check.equal("the emptied one away", 3, x.takeAway(0));
        Check.equal("later ones moved down", "2:6#0m3", Check.lineOf(x, 0));
        Check.equal("later ones moved down", "3:8#0m3", Check.lineOf(x, 1));
        Check.equal("later ones moved down", "1:2#0m3", Check.lineOf(x, 2));
        Check.equal("nothing is counted twice", 16, x.account(1));
        Check.equal("nor of the storm", 16, x.vintage(0));
        Check.equal("nor under the roof", 2, x.roofOf(1, 3));
        x.year();
        Check.equal("it moved with its year", 1, x.barrelOf(1, 5));
        Check.equal("a new one is empty", "0:0", Check.lineOf(x, x.barrel(0)));
    }

    private static void pourMovesRain() {
        RainCellar x = new RainCellar();
        x.barrel(0);
        x.storm(9, 0);
        x.barrel(3);
        Check.equal("into an empty one", 4, x.pour(0, 1, 4));
        Check.equal("it has the vintage and the moss", "3:4#0m3", Check.lineOf(x, 1));
        x.year();
        x.year();
        Check.equal("and the age", 2, x.barrelOf(1, 5));
        Check.equal("all of the rest", 9, x.pour(0, 1, 5));
        Check.equal("the one is empty", "0:0", Check.lineOf(x, 0));
        Check.equal("it has no age", 0, x.barrelOf(0, 5));

        RainCellar y = new RainCellar();
        y.barrel(2);
        y.clear(3);
        y.barrel(3);
        y.storm(1, 0);
        Check.equal("poured together", 6, y.pour(0, 1, 2));
        Check.equal("the moss of the other one stays", "3:6#0m0", Check.lineOf(y, 1));
        Check.equal("and that of the one", "2:1#0m3", Check.lineOf(y, 0));

        RainCellar z = new RainCellar();
        z.year();
        z.barrel(0);
        z.storm(1, 0);
        z.year();
        z.barrel(0);
        z.pour(0, 1, 1);
        Check.equal("the age is that of the storm", 1, z.barrelOf(1, 5));
    }

    private static void pourMovesHailByThePart() {
        RainCellar x = new RainCellar();
        x.barrel(1);
        x.barrel(0);
        x.storm(2, 2);
        x.hail(0, 2);
        x.pour(1, x.barrel(0), 2);
        Check.equal("part of 2 in 6", 33, x.barrelOf(0, 6));
        x.pour(0, 1, 3);
        Check.equal("99 hundredths are none", "0:3#0m3", Check.lineOf(x, 1));
        Check.equal("the hail stays", "1:3#0m3h2", Check.lineOf(x, 0));
        x.pour(0, 2, 2);
        Check.equal("66 of 2 are one", "0:4#0m3h1", Check.lineOf(x, 2));
        x.pour(0, 1, 1);
        Check.equal("all that is left", "0:4#0m3h1", Check.lineOf(x, 1));
        Check.equal("nothing stays", "1:0", Check.lineOf(x, 0));
        Check.equal("no hail stays", 0, x.barrelOf(0, 2));

        RainCellar y = new RainCellar();
        y.barrel(0);
        y.storm(1, 3);
        y.barrel(0);
        y.hail(0, 6);
        Check.equal("part of 6 in 7", 85, y.barrelOf(0, 6));
        y.pour(0, 1, 3);
        Check.equal("at least what the rain lacks", "0:3#0m3h2", Check.lineOf(y, 1));
        y.pour(0, 1, 4);
        Check.equal("all together again", "0:7#0m3h6", Check.lineOf(y, 1));

        RainCellar z = new RainCellar();
        z.barrel(0);
        z.storm(1, 1);
        z.barrel(0);
        z.hail(0, 2);
        z.pour(0, 1, 1);
        Check.equal("rain alone is poured", "0:1#0m3", Check.lineOf(z, 1));
        Check.equal("hail alone is left", "0:2#0m3h2", Check.lineOf(z, 0));
        Check.equal("its part", 100, z.barrelOf(0, 6));
        Check.equal("its note", 0, z.note(0));
        z.pour(0, 1, 1);
        Check.equal("hail alone is poured", "0:2#0m3h1", Check.lineOf(z, 1));
        Check.equal("a litre of it is left", "0:1#0m3h1", Check.lineOf(z, 0));
        Check.equal("its part", 100, z.barrelOf(0, 6));

        RainCellar a = new RainCellar();
        a.barrel(1);
        a.storm(1, 1);
        a.barrel(0);
        a.hail(0, 1);
        a.pour(0, 1, 3);
        Check.equal("33 of 3 are none, but the rain is 2", "0:3#0m3h1", Check.lineOf(a, 1));
    }

    private static void pourIsRefused() {
        RainCellar x = new RainCellar();
        Check.refused("pour without barrels", x, 3, 0, () -> x.pour(0, 0, 1));
        x.barrel(0);
        Check.refused("no other one", x, 3, 1, () -> x.pour(0, 1, 0));
        Check.refused("both one, ahead of the range", x, 8, 0, () -> x.pour(0, 0, 0));
        x.barrel(3);
        Check.refused("litres 21", x, 1, 0, () -> x.pour(0, 1, 21));
        Check.refused("from an empty one", x, 6, 0, () -> x.pour(0, 1, 1));

        RainCellar y = Check.after("b0 b3 s5*0");
        Check.refused("fewer, ahead of the room", y, 6, 5, () -> y.pour(0, 1, 6));
        Check.refused("less room", y, 7, 0, () -> y.pour(0, 1, 5));
        y.barrel(2);
        y.storm(6, 0);
        Check.refused("unlike storms, ahead of the room", y, 9, 1, () -> y.pour(1, 2, 20));

        RainCellar z = Check.after("b0 b3 s5*0 b1 p1>2=17");
        Check.refused("3 of room", z, 7, 3, () -> z.pour(0, 2, 4));
        Check.equal("all the room", 20, z.pour(0, 2, 3));
        z.barrel(0);
        Check.equal("20 litres", 20, z.pour(2, 3, 20));
    }

    private static void hailIsPutIn() {
        RainCellar x = new RainCellar();
        x.barrel(0);
        x.storm(4, 3);
        Check.equal("2 in 6", 33, x.hail(0, 2));
        Check.equal("bucket", 4, x.account(2));
        Check.equal("barrel", "0:6#0m3h2", Check.lineOf(x, 0));
        Check.equal("6 in 10", 60, x.hail(0, 4));
        Check.equal("bucket is empty", 0, x.account(2));
        x.storm(1, 3);
        x.storm(1, 3);
        Check.equal("15 in 19", 78, x.hail(0, 9));
    }

    private static void hailIsRefused() {
        RainCellar x = new RainCellar();
        Check.refused("hail without barrels", x, 3, 0, () -> x.hail(0, 0));
        x.barrel(3);
        Check.refused("hail 0", x, 1, 0, () -> x.hail(0, 0));
        Check.refused("hail 10", x, 1, 0, () -> x.hail(0, 10));
        Check.refused("into an empty one", x, 6, 0, () -> x.hail(0, 9));

        RainCellar y = Check.after("b3 s4*3");
        Check.refused("less hail, ahead of the room", y, 10, 6, () -> y.hail(0, 7));
        Check.refused("less room", y, 7, 4, () -> y.hail(0, 5));
        Check.refused("no such barrel, ahead of the range", y, 3, 1, () -> y.hail(1, 10));
        Check.equal("all the room", 20, y.hail(0, 4));
        Check.refused("no room", y, 7, 0, () -> y.hail(0, 1));
        y.year();
        Check.refused("no hail", y, 10, 0, () -> y.hail(0, 1));
    }

    private static void sommeliersComeAndLeave() {
        RainCellar x = new RainCellar();
        Check.refused("leave of none", x, 4, 0, () -> x.leave(0));
        Check.refused("palate -1", x, 1, 0, () -> x.sommelier(-1, true));
        Check.refused("palate 10", x, 1, 0, () -> x.sommelier(10, false));
        Check.equal("first", 0, x.sommelier(0, false));
        Check.equal("second", 1, x.sommelier(9, true));
        Check.equal("third", 2, x.sommelier(5, false));
        Check.equal("fourth", 3, x.sommelier(7, true));
        Check.refused("a fifth", x, 2, 4, () -> x.sommelier(0, true));
        Check.refused("a fifth without a palate", x, 1, 0, () -> x.sommelier(10, true));
        Check.refused("leave 4", x, 4, 4, () -> x.leave(4));
        Check.refused("leave -1", x, 4, 4, () -> x.leave(-1));
        Check.equal("the panel", "m0 t9 m5 t7", Check.panelOf(x));
        Check.equal("the second leaves", 3, x.leave(1));
        Check.equal("later ones move down", "m0 m5 t7", Check.panelOf(x));
        Check.equal("the last leaves", 2, x.leave(2));
        Check.equal("a new one", 2, x.sommelier(1, true));
        Check.equal("the panel", "m0 m5 t1", Check.panelOf(x));
    }

    private static void panelDrinks() {
        RainCellar x = new RainCellar();
        x.barrel(2);
        x.storm(4, 1);
        x.year();
        x.year();
        x.sommelier(0, false);
        x.sommelier(1, false);
        x.sommelier(2, false);
        Check.equal("three drink a 4", 12, x.drink(0));
        Check.equal("what is left", "2:9#0m3", Check.lineOf(x, 0));
        x.storm(1, 1);
        Check.equal("2 in 11", 18, x.hail(0, 2));
        Check.equal("as they drink, 4 of 82 is 3", 9, x.drink(0));
        Check.equal("no hail in 54 hundredths", "2:8#0m3h2", Check.lineOf(x, 0));
        Check.equal("drunk", 6, x.account(7));
        Check.equal("part of 2 in 8", 25, x.barrelOf(0, 6));
        x.sommelier(0, false);
        Check.equal("together a litre of hail, 4 of 75 is 3", 12, x.drink(0));
        Check.equal("one of hail", "2:4#0m3h1", Check.lineOf(x, 0));
        Check.equal("the last four", 12, x.drink(0));
        Check.equal("it is empty", "2:0", Check.lineOf(x, 0));
        Check.equal("it has no storm", -1, x.barrelOf(0, 3));
        Check.equal("drunk at last", 14, x.account(7));
        Check.equal("nothing poured away", 0, x.account(8));
        Check.that("even", x.isEven());
    }

    private static void panelExposes() {
        RainCellar x = new RainCellar();
        x.barrel(3);
        x.storm(2, 1);
        x.hail(0, 2);
        x.sommelier(3, false);
        x.sommelier(6, false);
        Check.equal("20 is not more than 20", 4, x.drink(0));
        Check.equal("2 in 8", 25, x.barrelOf(0, 6));
        Check.equal("exposed", 0, x.drink(0));
        Check.equal("what is left is poured away", "3:0", Check.lineOf(x, 0));
        Check.equal("drunk", 4, x.account(7));
        Check.equal("poured away", 6, x.account(8));
        Check.equal("exposed so far", 1, x.account(9));
        Check.that("even", x.isEven());

        RainCellar y = new RainCellar();
        y.barrel(0);
        y.storm(1, 1);
        y.hail(0, 1);
        y.sommelier(9, true);
        y.sommelier(0, false);
        Check.equal("exposed with nothing left", 0, y.drink(0));
        Check.equal("nothing is poured away", 0, y.account(8));
        Check.equal("but it is exposed", 1, y.account(9));
    }

    private static void drinkIsRefused() {
        RainCellar x = new RainCellar();
        Check.refused("no such barrel, ahead of no panel", x, 3, 0, () -> x.drink(0));
        x.barrel(0);
        Check.refused("no panel, ahead of no litres", x, 11, 0, () -> x.drink(0));
        x.sommelier(0, false);
        x.sommelier(0, false);
        Check.refused("empty", x, 6, 0, () -> x.drink(0));
        x.storm(1, 0);
        Check.refused("one litre for two", x, 6, 1, () -> x.drink(0));
        x.leave(0);
        Check.equal("one litre for one", 3, x.drink(0));
        Check.refused("no such barrel", x, 3, 1, () -> x.drink(1));
    }

    private static void roofIsCleared() {
        RainCellar x = new RainCellar();
        Check.refused("roof -1", x, 1, 0, () -> x.clear(-1));
        Check.refused("roof 4", x, 1, 0, () -> x.clear(4));
        x.year();
        Check.equal("clear 2", 4, x.clear(2));
        Check.equal("it has none", 0, x.roofOf(2, 0));
        Check.equal("another has its moss", 4, x.roofOf(1, 0));
        Check.refused("clear 2 again", x, 12, 2, () -> x.clear(2));
        x.year();
        Check.equal("a year later", 1, x.clear(2));
    }

    private static void yearGoesBy() {
        RainCellar x = new RainCellar();
        x.storm(3, 2);
        Check.equal("hail melts", 4, x.year());
        Check.equal("none is left", 0, x.account(2));
        Check.equal("nothing melts", 0, x.year());
        Check.equal("the year", 2, x.account(4));
        Check.equal("moss grows", 4, x.roofOf(0, 0));
        for (int k = 0; k < 5; k++) {
            x.year();
        }
        Check.equal("up to 9", 9, x.roofOf(0, 0));
        x.year();
        Check.equal("not above", 9, x.roofOf(3, 0));
    }
}
