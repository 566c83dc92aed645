import java.util.function.Consumer;

/** Promises 35 to 40: means, shares, accounts, undo, save and restore. */
public final class KeepingTests {
    private KeepingTests() {
    }

    public static void main(String[] args) {
        means();
        shares();
        accounts();
        undoing();
        everyChangeIsUndone();
        onlyChangesAreUndone();
        refusalsCostNothing();
        saving();
        savingStorms();
        whatStays();
        Check.finish();
    }

    private static void means() {
        RainCellar x = new RainCellar();
        Check.throwing("no barrels", ArithmeticException.class, () -> x.meanNote());
        x.barrel(0);
        Check.throwing("an empty one", ArithmeticException.class, () -> x.meanNote());
        x.barrel(1);
        x.barrel(3);
        x.storm(1, 0);
        x.barrel(2);
        Check.equal("empty ones do not count", 3.0, x.meanNote());
        x.year();
        x.storm(1, 1);
        Check.equal("of four", 13.0 / 4.0, x.meanNote());
        x.hail(0, 1);
        Check.equal("part of 1 in 2", 11.0 / 4.0, x.meanNote());
        x.barrel(0);
        x.pour(3, 4, 3);
        x.pour(1, 3, 2);
        x.pour(2, 3, 4);
        Check.equal("a third", 8.0 / 3.0, x.meanNote());
    }

    private static void shares() {
        RainCellar x = new RainCellar();
        Check.throwing("no barrels", ArithmeticException.class, () -> x.hailShare());
        x.barrel(0);
        Check.throwing("an empty one", ArithmeticException.class, () -> x.hailShare());
        x.barrel(2);
        x.storm(3, 1);
        Check.equal("no hail", 0.0f, x.hailShare());
        x.hail(1, 1);
        Check.equal("1 in 13", 1.0f / 13.0f, x.hailShare());
        x.hail(0, 1);
        Check.equal("2 in 14", 2.0f / 14.0f, x.hailShare());
    }

    private static void accounts() {
        RainCellar x = new RainCellar();
        x.barrel(3);
        x.barrel(2);
        x.storm(2, 3);
        x.year();
        x.storm(1, 2);
        x.hail(0, 3);
        x.sommelier(4, false);
        x.sommelier(3, false);
        x.drink(1);
        x.sommelier(9, false);
        x.drink(0);
        x.append('q');
        int[] due = {2, 4, 1, 3, 1, 2, 16, 5, 8, 1, 8, 1};
        for (int what = 0; what < due.length; what++) {
            Check.equal("account " + what, due[what], x.account(what));
        }
        Check.badArgument("account 12", () -> x.account(12));
        Check.badArgument("account -1", () -> x.account(-1));
    }

    private static void undoing() {
        Check.badState("nothing to undo", () -> new RainCellar().undo());
        String[] changes = {"b0 ", "s2*1 ", "s3*2 ", "b3 ", "s5*0 ", "s6*1 ", "b2 ", "s8*3 ", "s9*0 ", "b1 ", "s2*2 ", "y "};
        for (int count = 0; count <= 12; count++) {
            String all = String.join("", java.util.Arrays.copyOf(changes, count));
            int kept = Math.min(count, 8);
            for (int undone = 0; undone <= kept; undone++) {
                RainCellar x = Check.after(all + "u ".repeat(undone));
                String before = String.join("", java.util.Arrays.copyOf(changes, count - undone));
                Check.equal("as before " + all, Check.seen(Check.after(before)), Check.seen(x));
                Check.equal("left to undo", kept - undone, x.account(10));
            }
            RainCellar x = Check.after(all + "u ".repeat(kept));
            Check.badState("only the latest eight", () -> x.undo());
            x.year();
            Check.equal("a new change", 0, x.undo());
        }
    }

    private static void everyChangeIsUndone() {
        undone("storm", x -> x.storm(4, 3));
        undone("barrel", x -> x.barrel(1));
        undone("takeAway", x -> x.takeAway(3));
        undone("pour", x -> x.pour(0, 3, 5));
        undone("hail", x -> x.hail(1, 2));
        undone("sommelier", x -> x.sommelier(3, true));
        undone("leave", x -> x.leave(0));
        undone("drink", x -> x.drink(1));
        undone("drink that exposes", x -> x.drink(0));
        undone("clear", x -> x.clear(2));
        undone("year", x -> x.year());
        undone("commands", x -> Check.carryOut(x, "y;p0>3=9;c0"));
    }

    private static void undone(String what, Consumer<RainCellar> change) {
        RainCellar x = new RainCellar();
        Check.carryOut(x, "b3;b0;b1;s3*2;h0=1;m0;t9;b2");
        // Forgets what could be undone, so that what there was before the text can't pass for before the change.
        x.save();
        x.restore();
        String before = Check.seen(x) + Check.panelOf(x);
        change.accept(x);
        Check.that(what + " changes something", !before.equals(Check.seen(x) + Check.panelOf(x)));
        Check.equal(what + " can be undone", 1, x.account(10));
        Check.equal(what + " is undone", 0, x.undo());
        Check.equal("as before " + what, before, Check.seen(x) + Check.panelOf(x));
        Check.that("even after " + what, x.isEven());
    }

    private static void onlyChangesAreUndone() {
        RainCellar x = new RainCellar();
        x.barrel(0);
        x.storm(1, 0);
        x.append('y');
        x.save();
        x.line(0);
        x.panel();
        x.note(0);
        x.hidden(0);
        x.wouldCatch(1);
        Check.equal("two changes", 2, x.account(10));
        Check.equal("the storm", 1, x.undo());
        Check.equal("the text stays", 1, x.account(11));
    }

    private static void refusalsCostNothing() {
        RainCellar x = new RainCellar();
        for (int k = 0; k < 8; k++) {
            x.barrel(0);
        }
        Check.refused("a ninth barrel", x, 2, 8, () -> x.barrel(0));
        Check.refused("a text with a ninth", x, 2, 8, () -> Check.carryOut(x, "y;b0"));
        Check.equal("eight changes", 8, x.account(10));
        for (int k = 7; k >= 0; k--) {
            Check.equal("left", k, x.undo());
            Check.equal("barrels", k, x.account(0));
        }
    }

    private static void saving() {
        RainCellar x = new RainCellar();
        Check.badState("nothing saved", () -> x.restore());
        Check.equal("save without barrels", 0, x.save());
        Check.carryOut(x, "b3;b0;s3*2;m4;t2");
        String first = Check.seen(x) + Check.panelOf(x);
        Check.equal("save again", 2, x.save());
        Check.equal("save is no change", 1, x.account(10));
        Check.carryOut(x, "h0=1");
        Check.carryOut(x, "b1;y;g0;l0;c3");
        Check.equal("restore", 2, x.restore());
        Check.equal("as it was saved", first, Check.seen(x) + Check.panelOf(x));
        Check.equal("what could be undone is forgotten", 0, x.account(10));
        Check.badState("nothing to undo", () -> x.undo());
        x.barrel(2);
        Check.equal("a change after it", 1, x.account(10));
        Check.equal("the snapshot is kept", 2, x.restore());
        Check.equal("as it was saved", first, Check.seen(x) + Check.panelOf(x));
        x.year();
        x.year();
        x.undo();
        Check.equal("in place of the earlier", 2, x.save());
        x.undo();
        x.restore();
        Check.equal("the later one", 1, x.account(4));
    }

    private static void savingStorms() {
        RainCellar x = new RainCellar();
        for (int k = 0; k < 5; k++) {
            x.storm(k + 1, 0);
        }
        x.save();
        String saved = Check.seen(x);
        x.undo();
        x.undo();
        for (int k = 0; k < 14; k++) {
            x.storm(9, 0);
        }
        x.restore();
        Check.equal("storms as they were saved", saved, Check.seen(x));
        x.barrel(1);
        x.storm(4, 0);
        x.save();
        for (int k = 0; k < 12; k++) {
            x.storm(1, 0);
        }
        x.restore();
        Check.equal("and what they brought", 8, x.stormOf(5, 2));
    }

    private static void whatStays() {
        RainCellar x = new RainCellar();
        x.barrel(1);
        x.save();
        Check.badArgument("a fault", () -> Check.carryOut(x, "y;?"));
        Check.refused("a refusal", x, 12, 1, () -> Check.carryOut(x, "c1;c1"));
        Check.badArgument("a fault", () -> Check.carryOut(x, "y;?"));
        Check.append(x, "b2");
        int length = x.line(0);
        x.restore();
        Check.equal("the buffer stays", 2, x.account(11));
        Check.equal("the fault position stays", 2, x.faultPosition());
        Check.equal("the reason stays", 12, x.reason(0));
        Check.equal("its index stays", 1, x.reason(2));
        Check.equal("the line stays", "1:0", Check.written(x, length));
        Check.equal("the text is still carried out", 1, x.commands());
        Check.equal("two barrels", 2, x.account(0));
    }
}
