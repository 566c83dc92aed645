/** Promises 12 to 27: the questions about roofs, barrels, notes, hail, storms and orders. */
public final class QuestionTests {
    private QuestionTests() {
    }

    public static void main(String[] args) {
        roofs();
        barrels();
        notes();
        notesAreRefused();
        sommeliersNotice();
        noticingIsASet();
        hailIsHidden();
        hiddenIsRefused();
        stormsAreForeseen();
        vintages();
        latestStorms();
        canPour();
        orders();
        evenness();
        Check.finish();
    }

    private static void roofs() {
        RainCellar x = new RainCellar();
        x.barrel(2);
        x.barrel(2);
        x.barrel(1);
        x.storm(1, 1);
        x.hail(0, 2);
        x.clear(1);
        Check.equal("moss", 3, x.roofOf(2, 0));
        Check.equal("cleared", 0, x.roofOf(1, 0));
        Check.equal("barrels", 2, x.roofOf(2, 1));
        Check.equal("empty ones", 1, x.roofOf(2, 2));
        Check.equal("litres, hail too", 5, x.roofOf(2, 3));
        Check.equal("no barrels", 0, x.roofOf(3, 1));
        Check.equal("no empty ones", 0, x.roofOf(1, 2));
        Check.outOfBounds("roof -1", () -> x.roofOf(-1, 0));
        Check.outOfBounds("roof 4 ahead of what", () -> x.roofOf(4, 9));
        Check.badArgument("what -1", () -> x.roofOf(0, -1));
        Check.badArgument("what 4", () -> x.roofOf(0, 4));
    }

    private static void barrels() {
        RainCellar x = new RainCellar();
        x.year();
        x.storm(1, 0);
        x.barrel(3);
        x.barrel(1);
        x.clear(1);
        int[] empty = {3, 0, 0, -1, 0, 0, 0};
        checkBarrel("empty", x, 0, empty);
        x.storm(3, 1);
        x.hail(0, 2);
        x.year();
        x.year();
        x.year();
        int[] full = {3, 14, 2, 1, 4, 3, 14};
        checkBarrel("full", x, 0, full);
        int[] other = {1, 6, 0, 1, 0, 3, 0};
        checkBarrel("without moss", x, 1, other);
        x.barrel(0);
        x.pour(1, 2, 6);
        int[] emptied = {1, 0, 0, -1, 0, 0, 0};
        checkBarrel("emptied", x, 1, emptied);
        Check.outOfBounds("barrel 3 ahead of what", () -> x.barrelOf(3, 7));
        Check.outOfBounds("barrel -1", () -> x.barrelOf(-1, 0));
        Check.badArgument("what 7", () -> x.barrelOf(0, 7));
        Check.badArgument("what -1", () -> x.barrelOf(1, -1));
    }

    private static void checkBarrel(String what, RainCellar x, int barrel, int[] due) {
        for (int k = 0; k < due.length; k++) {
            Check.equal(what + ": barrelOf " + k, due[k], x.barrelOf(barrel, k));
        }
    }

    private static void notes() {
        RainCellar x = new RainCellar();
        x.barrel(2);
        x.storm(5, 2);
        x.hail(0, 4);
        Check.equal("part of 4 in 19", 21, x.barrelOf(0, 6));
        int[] due = {2, 2, 3, 3, 3, 3, 4, 4, 5, 5, 6, 6, 7, 7, 7, 7};
        for (int years = 0; years < due.length; years++) {
            Check.equal("note after " + years, due[years], x.note(0));
            Check.equal("noteAgain after " + years, due[years], x.noteAgain(0));
            for (int more = 0; years + more < due.length; more++) {
                Check.equal("noteIn " + more + " after " + years, due[years + more], x.noteIn(0, more));
            }
            x.year();
        }
        Check.equal("noteIn 20", 7, x.noteIn(0, 20));

        RainCellar y = new RainCellar();
        for (int k = 0; k < 5; k++) {
            y.year();
        }
        y.barrel(0);
        y.storm(1, 0);
        for (int years = 0; years < 8; years++) {
            int note = Math.min(8 + years / 2, 9);
            Check.equal("a note of 9 at most, after " + years, note, y.note(0));
            Check.equal("by the second way", note, y.noteAgain(0));
            Check.equal("and foreseen", 9, y.noteIn(0, 4));
            y.year();
        }
    }

    private static void notesAreRefused() {
        RainCellar x = new RainCellar();
        Check.outOfBounds("note", () -> x.note(0));
        Check.outOfBounds("noteAgain", () -> x.noteAgain(0));
        Check.outOfBounds("noteIn ahead of years", () -> x.noteIn(0, 21));
        x.barrel(0);
        Check.noElement("note of an empty one", () -> x.note(0));
        Check.noElement("noteAgain of an empty one", () -> x.noteAgain(0));
        Check.noElement("noteIn of an empty one, ahead of years", () -> x.noteIn(0, -1));
        x.storm(1, 0);
        Check.badArgument("noteIn -1", () -> x.noteIn(0, -1));
        Check.badArgument("noteIn 21", () -> x.noteIn(0, 21));
        Check.outOfBounds("note 1", () -> x.note(1));
        Check.outOfBounds("noteAgain -1", () -> x.noteAgain(-1));
        Check.outOfBounds("noteIn -1", () -> x.noteIn(-1, 0));
    }

    /** Makes a barrel 0 of a storm's rain, with hail in it. */
    private static RainCellar adulterated(int rain, int hail) {
        RainCellar x = new RainCellar();
        x.barrel(0);
        x.barrel(0);
        x.storm(9, 3);
        if (rain < 9) {
            x.pour(0, 1, 9 - rain);
        }
        x.storm(1, 3);
        if (hail > 0) {
            x.hail(0, hail);
        }
        return x;
    }

    private static void sommeliersNotice() {
        RainCellar x = adulterated(4, 1);
        Check.equal("part", 20, x.barrelOf(0, 6));
        x.sommelier(6, false);
        x.sommelier(7, false);
        x.sommelier(4, true);
        x.sommelier(5, true);
        Check.that("20 is not more than 20", !x.notices(0, 0));
        Check.that("20 is more than 15", x.notices(1, 0));
        Check.that("4 and 2 notice as 6", !x.notices(2, 0));
        Check.that("5 and 2 notice as 7", x.notices(3, 0));
        x.takeAway(x.barrel(0));
        x.barrel(2);
        Check.that("an empty one", !x.notices(1, 2));
        Check.outOfBounds("sommelier 4", () -> x.notices(4, 0));
        Check.outOfBounds("sommelier -1", () -> x.notices(-1, 0));
        Check.outOfBounds("barrel 3", () -> x.notices(0, 3));
        Check.outOfBounds("barrel -1", () -> x.notices(0, -1));

        RainCellar y = adulterated(8, 0);
        y.sommelier(9, true);
        Check.that("a part of 0 is not noticed by a palate of 11", !y.notices(0, 0));
        y.hail(0, 1);
        Check.equal("part", 11, y.barrelOf(0, 6));
        Check.that("11 is noticed by it", y.notices(0, 0));
        y.sommelier(8, true);
        y.sommelier(8, false);
        y.sommelier(7, false);
        Check.that("and by 10", y.notices(1, 0));
        Check.that("and by 8", y.notices(2, 0));
        Check.that("not by 7", !y.notices(3, 0));

        RainCellar z = new RainCellar();
        z.barrel(3);
        z.storm(4, 1);
        z.hail(0, 1);
        z.sommelier(9, false);
        z.sommelier(8, true);
        Check.equal("part of 1 in 17", 5, z.barrelOf(0, 6));
        Check.that("5 is not more than 5", !z.notices(0, 0));
        Check.that("5 is more than 0", z.notices(1, 0));
    }

    private static void noticingIsASet() {
        RainCellar x = adulterated(4, 4);
        Check.equal("no sommeliers", 0, x.noticing(0));
        x.sommelier(0, false);
        x.sommelier(0, true);
        x.sommelier(9, false);
        Check.equal("50 by the second and third", 6, x.noticing(0));
        x.leave(0);
        Check.equal("numbers move down", 3, x.noticing(0));
        Check.equal("no hail", 0, x.noticing(1));
        Check.equal("an empty one", 0, x.noticing(x.barrel(0)));
        Check.outOfBounds("barrel 3", () -> x.noticing(3));
        Check.outOfBounds("barrel -1", () -> x.noticing(-1));
    }

    private static void checkHidden(String what, RainCellar x, int due) {
        Check.equal(what + ": hidden", due, x.hidden(0));
        Check.equal(what + ": hiddenAgain", due, x.hiddenAgain(0));
    }

    private static void hailIsHidden() {
        RainCellar x = adulterated(8, 0);
        checkHidden("as much as there is", x, 9);
        x.sommelier(2, false);
        checkHidden("5 in 13 is 38", x, 5);
        x.sommelier(3, true);
        checkHidden("2 in 10 is 20, 3 in 11 is 27", x, 2);
        x.sommelier(9, true);
        checkHidden("none", x, 0);
        x.leave(2);
        x.hail(0, 1);
        checkHidden("with one in it", x, 1);
        x.hail(0, 1);
        checkHidden("with two in it", x, 0);
        x.leave(1);
        x.year();
        checkHidden("as there is no hail", x, 0);

        RainCellar y = new RainCellar();
        y.barrel(3);
        y.storm(4, 3);
        checkHidden("as much as there is room for", y, 4);
        y.sommelier(0, false);
        checkHidden("as much as there is room for, by a weak palate", y, 4);
        y.hail(0, 4);
        checkHidden("a full one", y, 0);

        RainCellar z = adulterated(7, 0);
        z.sommelier(0, false);
        checkHidden("7 in 14 is 50", z, 7);
    }

    private static void hiddenIsRefused() {
        RainCellar x = adulterated(4, 4);
        Check.outOfBounds("hidden 2", () -> x.hidden(2));
        Check.outOfBounds("hiddenAgain 2", () -> x.hiddenAgain(2));
        Check.outOfBounds("hidden -1", () -> x.hidden(-1));
        Check.outOfBounds("hiddenAgain -1", () -> x.hiddenAgain(-1));
        x.sommelier(0, false);
        Check.equal("50 is not noticed", 0, x.hidden(0));
        x.sommelier(1, false);
        Check.noElement("50 is noticed", () -> x.hidden(0));
        Check.noElement("50 is noticed", () -> x.hiddenAgain(0));
        x.barrel(0);
        Check.noElement("empty", () -> x.hidden(2));
        Check.noElement("empty", () -> x.hiddenAgain(2));
    }

    private static void stormsAreForeseen() {
        RainCellar x = new RainCellar();
        Check.equal("no barrels", 0, x.wouldCatch(9));
        Check.equal("all is lost", 10, x.wouldLose(1));
        x.barrel(3);
        x.barrel(0);
        x.barrel(3);
        for (int strength = 1; strength <= 9; strength++) {
            int due = strength + 4 * strength;
            Check.equal("wouldCatch " + strength, due, x.wouldCatch(strength));
            Check.equal("wouldLose " + strength, 10 * strength - due, x.wouldLose(strength));
        }
        x.storm(5, 0);
        Check.equal("into the one that is still empty", 20, x.wouldCatch(9));
        Check.equal("all else is lost", 70, x.wouldLose(9));
        Check.badArgument("wouldCatch 0", () -> x.wouldCatch(0));
        Check.badArgument("wouldCatch 10", () -> x.wouldCatch(10));
        Check.badArgument("wouldLose 0", () -> x.wouldLose(0));
        Check.badArgument("wouldLose 10", () -> x.wouldLose(10));
    }

    private static void vintages() {
        RainCellar x = new RainCellar();
        Check.noElement("no storm yet", () -> x.vintage(0));
        x.barrel(1);
        x.barrel(2);
        x.storm(3, 2);
        x.barrel(3);
        x.storm(1, 0);
        x.hail(0, 3);
        Check.equal("with its hail", 18, x.vintage(0));
        Check.equal("the second", 4, x.vintage(1));
        Check.noElement("no third", () -> x.vintage(2));
        Check.noElement("storm -1", () -> x.vintage(-1));
        x.sommelier(0, false);
        x.drink(2);
        Check.equal("less a glass", 3, x.vintage(1));
        for (int k = 0; k < 12; k++) {
            x.storm(1, 0);
        }
        Check.equal("the first is still told", 18, x.vintage(0));
        Check.equal("the last brought nothing", 0, x.vintage(13));
    }

    private static void latestStorms() {
        RainCellar x = new RainCellar();
        Check.noElement("none yet", () -> x.stormOf(0, 0));
        x.barrel(1);
        for (int k = 0; k < 14; k++) {
            x.storm(k % 9 + 1, 0);
            x.year();
        }
        Check.noElement("the first is forgotten, ahead of what", () -> x.stormOf(0, 3));
        Check.noElement("the second is forgotten", () -> x.stormOf(1, 0));
        Check.noElement("there is no fifteenth", () -> x.stormOf(14, 0));
        Check.noElement("storm -1", () -> x.stormOf(-1, 0));
        Check.badArgument("what 3", () -> x.stormOf(2, 3));
        Check.badArgument("what -1", () -> x.stormOf(13, -1));
        for (int k = 2; k < 14; k++) {
            Check.equal("strength of " + k, k % 9 + 1, x.stormOf(k, 0));
            Check.equal("year of " + k, k, x.stormOf(k, 1));
            Check.equal("litres of " + k, 0, x.stormOf(k, 2));
        }
        x.undo();
        x.undo();
        Check.equal("the second is told again", 2, x.stormOf(1, 0));
        Check.equal("its year", 1, x.stormOf(1, 1));
        x.barrel(2);
        x.storm(4, 0);
        x.sommelier(0, false);
        x.drink(1);
        Check.equal("what came in", 12, x.stormOf(13, 2));
    }

    private static void canPour() {
        RainCellar x = new RainCellar();
        Check.outOfBounds("no barrels", () -> x.canPour(0, 0));
        x.barrel(0);
        x.barrel(3);
        Check.that("an empty one into another", !x.canPour(0, 1));
        x.storm(5, 0);
        Check.that("into a full one", !x.canPour(0, 1));
        Check.that("from a full one", x.canPour(1, 0));
        Check.that("into itself", !x.canPour(0, 0));
        x.pour(1, 0, 14);
        Check.that("into one litre of room", x.canPour(1, 0));
        x.pour(1, 0, 1);
        Check.that("into no room", !x.canPour(1, 0));
        x.undo();
        x.undo();
        x.barrel(0);
        Check.that("into an empty one", x.canPour(0, 2));
        x.pour(0, 2, 1);
        Check.that("a litre alone", x.canPour(2, 0));
        x.undo();
        x.storm(1, 0);
        Check.that("unlike storms", !x.canPour(0, 2));
        Check.that("unlike storms, the other way", !x.canPour(2, 0));
        Check.outOfBounds("from 3", () -> x.canPour(3, 0));
        Check.outOfBounds("to 3", () -> x.canPour(0, 3));
        Check.outOfBounds("from -1", () -> x.canPour(-1, 0));
        Check.outOfBounds("to -1", () -> x.canPour(0, -1));
    }

    private static void orders() {
        RainCellar x = new RainCellar();
        Check.noElement("no barrels", () -> x.ranked(0, 0));
        Check.badArgument("measure 4, ahead of the place", () -> x.ranked(4, 0));
        Check.badArgument("measure -1", () -> x.ranked(-1, 0));
        x.barrel(0);
        x.barrel(1);
        x.clear(0);
        x.storm(2, 2);
        x.year();
        x.barrel(2);
        x.barrel(3);
        x.barrel(2);
        x.storm(1, 1);
        x.hail(1, 1);
        x.hail(2, 1);
        // The barrels now: 0:2#0m0, 1:5#0m3h1, 2:4#1m4h1, 3:4#1m4, 2:0.
        checkOrder("litres", x, 0, 1, 2, 3, 0, 4);
        checkOrder("notes 0 2 3 4 0", x, 1, 3, 2, 1, 0, 4);
        checkOrder("ages 1 1 0 0 0", x, 2, 0, 1, 2, 3, 4);
        checkOrder("parts 0 20 25 0 0", x, 3, 2, 1, 0, 3, 4);
        Check.noElement("place 5", () -> x.ranked(0, 5));
        Check.noElement("place -1", () -> x.ranked(3, -1));

        RainCellar y = new RainCellar();
        y.barrel(0);
        y.barrel(1);
        y.barrel(2);
        y.clear(1);
        y.storm(1, 1);
        y.sommelier(0, false);
        y.drink(0);
        y.hail(2, 1);
        y.takeAway(0);
        checkOrder("without the one taken away", y, 0, 1, 0);
        Check.equal("the mean without it", 1.0, y.meanNote());
        Check.equal("the share without it", 1.0f / 6.0f, y.hailShare());
    }

    private static void checkOrder(String what, RainCellar x, int measure, int... due) {
        for (int place = 0; place < due.length; place++) {
            Check.equal(what + ": place " + place, due[place], x.ranked(measure, place));
        }
    }

    private static void evenness() {
        RainCellar x = new RainCellar();
        x.barrel(3);
        x.barrel(0);
        x.storm(3, 3);
        Check.that("after a storm", x.isEven());
        x.hail(0, 5);
        Check.that("after hail", x.isEven());
        x.barrel(1);
        x.pour(0, 2, 7);
        Check.that("after pouring", x.isEven());
        x.sommelier(0, false);
        x.drink(0);
        Check.that("after drinking", x.isEven());
        x.sommelier(9, false);
        x.drink(2);
        Check.that("after exposing", x.isEven());
        x.undo();
        Check.that("after undoing", x.isEven());
    }
}
