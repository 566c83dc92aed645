import java.util.Random;
import java.util.function.Supplier;

/** Runs of 512 calls each, drawn from fixed seeds: the program and the Model have to give the same answers. */
public final class RandomRunTests {
    private static final int RUNS = 3000;
    private static final int CALLS = 512;
    private static final int[] ODD = {-1, Integer.MIN_VALUE, Integer.MAX_VALUE, 10, 21, 60};
    private static final String SIGNS = "sbxphmtlgcy;*>=0123456789 Z";

    private final Random random;
    private final RainCellar x = new RainCellar();
    private final Model m = new Model();
    /** How often odd numbers are asked for, of 100 times. */
    private final int oddness;
    private String pending = "";

    private RandomRunTests(int run) {
        random = new Random(run);
        oddness = run % 3 == 0 ? 20 : 3;
    }

    public static void main(String[] args) {
        for (int run = 0; run < RUNS; run++) {
            RandomRunTests test = new RandomRunTests(run);
            Check.that("run " + run + " is as the model", test.isAsModel(run));
        }
        Check.finish();
    }

    private boolean isAsModel(int run) {
        for (int call = 0; call < CALLS; call++) {
            String[] answers = next();
            if (!answers[1].equals(answers[2])) {
                System.out.println("run " + run + ", call " + call + ", " + answers[0] + ": answered " + answers[1]
                        + ", due is " + answers[2]);
                return false;
            }
        }
        return true;
    }

    private String[] same(String call, Supplier<Object> got, Supplier<Object> due) {
        return new String[] {call, answer(got), answer(due)};
    }

    private static String answer(Supplier<Object> call) {
        try {
            return String.valueOf(call.get());
        } catch (RuntimeException e) {
            return "throws " + e.getClass().getSimpleName();
        }
    }

    private int number(int least, int most) {
        if (random.nextInt(100) < oddness) {
            return ODD[random.nextInt(ODD.length)];
        }
        return least + random.nextInt(most - least + 1);
    }

    private int cask() {
        return number(0, Math.max(0, m.account(0) - 1));
    }

    private int taster() {
        return number(0, Math.max(0, m.account(3) - 1));
    }

    private String[] next() {
        if (!pending.isEmpty()) {
            char sign = pending.charAt(0);
            pending = pending.substring(1);
            return same("append " + sign, () -> x.append(sign), () -> m.append(sign));
        }
        int which = random.nextInt(100);
        if (which < 55) {
            return change(random.nextInt(12));
        }
        return which < 60 ? text() : question(random.nextInt(28));
    }

    private String[] change(int which) {
        int a = cask();
        int b = cask();
        switch (which) {
            case 0, 1: {
                int strength = number(1, 9);
                int hail = number(0, 3);
                return same("storm " + strength + " " + hail, () -> x.storm(strength, hail),
                        () -> m.storm(strength, hail));
            }
            case 2: {
                int roof = number(0, 3);
                return same("barrel " + roof, () -> x.barrel(roof), () -> m.barrel(roof));
            }
            case 3:
                return same("takeAway " + a, () -> x.takeAway(a), () -> m.takeAway(a));
            case 4, 5: {
                int litres = random.nextBoolean() ? number(1, 4) : number(0, 21);
                return same("pour " + a + " " + b + " " + litres, () -> x.pour(a, b, litres),
                        () -> m.pour(a, b, litres));
            }
            case 6, 7: {
                int litres = random.nextBoolean() ? number(1, 2) : number(0, 10);
                return same("hail " + a + " " + litres, () -> x.hail(a, litres), () -> m.hail(a, litres));
            }
            case 8: {
                int palate = number(0, 9);
                boolean isStrict = random.nextBoolean();
                return same("sommelier " + palate + " " + isStrict, () -> x.sommelier(palate, isStrict),
                        () -> m.sommelier(palate, isStrict));
            }
            case 9: {
                int k = taster();
                return random.nextBoolean() ? same("leave " + k, () -> x.leave(k), () -> m.leave(k))
                        : same("undo", () -> x.undo(), () -> m.undo());
            }
            case 10:
                return same("drink " + a, () -> x.drink(a), () -> m.drink(a));
            default: {
                int roof = number(0, 3);
                return random.nextBoolean() ? same("clear " + roof, () -> x.clear(roof), () -> m.clear(roof))
                        : same("year", () -> x.year(), () -> m.year());
            }
        }
    }

    private String[] text() {
        if (random.nextInt(3) > 0) {
            return same("commands", () -> x.commands(), () -> m.commands());
        }
        StringBuilder all = new StringBuilder();
        int commands = 1 + random.nextInt(random.nextInt(8) == 0 ? 15 : 4);
        for (int k = 0; k < commands; k++) {
            all.append(k == 0 ? "" : ";").append(command());
        }
        if (random.nextInt(3) == 0) {
            int at = random.nextInt(all.length());
            all.setCharAt(at, SIGNS.charAt(random.nextInt(SIGNS.length())));
        } else if (random.nextInt(4) == 0) {
            all.setLength(random.nextInt(all.length() + 1));
        }
        pending = all.toString();
        return same("commands", () -> x.commands(), () -> m.commands());
    }

    private String command() {
        int d = random.nextInt(10);
        int cask = random.nextInt(Math.max(1, m.account(0)));
        int other = random.nextInt(Math.max(1, m.account(0)));
        switch (random.nextInt(12)) {
            case 0: return "s" + Math.max(1, d) + "*" + random.nextInt(4);
            case 1: return "b" + random.nextInt(4);
            case 2: return "x" + cask;
            case 3: return "p" + cask + ">" + other + "=" + (1 + random.nextInt(3));
            case 4: return "p" + cask + ">" + other + "=0" + d;
            case 5: return "h" + cask + "=" + (1 + random.nextInt(2));
            case 6: return "m" + d;
            case 7: return "t" + d;
            case 8: return "l" + random.nextInt(4);
            case 9: return "g" + cask;
            case 10: return "c" + random.nextInt(4);
            default: return "y";
        }
    }

    private String[] question(int which) {
        int a = cask();
        int b = cask();
        int n = number(0, 9);
        int storm = number(Math.max(0, m.account(5) - 13), m.account(5));
        switch (which) {
            case 0: {
                int roof = number(0, 3);
                int what = number(0, 3);
                return same("roofOf " + roof + " " + what, () -> x.roofOf(roof, what), () -> m.roofOf(roof, what));
            }
            case 1, 2, 3: {
                int what = number(0, 6);
                return same("barrelOf " + a + " " + what, () -> x.barrelOf(a, what), () -> m.barrelOf(a, what));
            }
            case 4: return same("note " + a, () -> x.note(a), () -> m.note(a));
            case 5: return same("noteAgain " + a, () -> x.noteAgain(a), () -> m.note(a));
            case 6: {
                int years = number(0, 20);
                return same("noteIn " + a + " " + years, () -> x.noteIn(a, years), () -> m.noteIn(a, years));
            }
            case 7: {
                int k = taster();
                return same("notices " + k + " " + a, () -> x.notices(k, a), () -> m.notices(k, a));
            }
            case 8: return same("noticing " + a, () -> x.noticing(a), () -> m.noticing(a));
            case 9: return same("hidden " + a, () -> x.hidden(a), () -> m.hidden(a));
            case 10: return same("hiddenAgain " + a, () -> x.hiddenAgain(a), () -> m.hidden(a));
            case 11: return same("wouldCatch " + n, () -> x.wouldCatch(n), () -> m.wouldCatch(n));
            case 12: return same("wouldLose " + n, () -> x.wouldLose(n), () -> m.wouldLose(n));
            case 13: return same("vintage " + storm, () -> x.vintage(storm), () -> m.vintage(storm));
            case 14: {
                int what = number(0, 2);
                return same("stormOf " + storm + " " + what, () -> x.stormOf(storm, what),
                        () -> m.stormOf(storm, what));
            }
            case 15: return same("canPour " + a + " " + b, () -> x.canPour(a, b), () -> m.canPour(a, b));
            case 16, 17: {
                int measure = number(0, 3);
                return same("ranked " + measure + " " + a, () -> x.ranked(measure, a), () -> m.ranked(measure, a));
            }
            case 18: return same("isEven", () -> x.isEven(), () -> true);
            case 19: return same("append", () -> x.append((char) n), () -> m.append((char) n));
            case 20: return same("faultPosition", () -> x.faultPosition(), () -> m.faultPosition());
            case 21: {
                int what = number(0, 2);
                return same("reason " + what, () -> x.reason(what), () -> m.reason(what));
            }
            case 22: return random.nextBoolean() ? same("line " + a, () -> x.line(a), () -> m.line(a))
                    : same("panel", () -> x.panel(), () -> m.panel());
            case 23: return same("character " + n, () -> x.character(n), () -> m.character(n));
            case 24: return random.nextBoolean() ? same("meanNote", () -> x.meanNote(), () -> m.meanNote())
                    : same("hailShare", () -> x.hailShare(), () -> m.hailShare());
            case 25, 26: {
                int what = number(0, 11);
                return same("account " + what, () -> x.account(what), () -> m.account(what));
            }
            default: return random.nextInt(3) > 0 ? same("save", () -> x.save(), () -> m.save())
                    : same("restore", () -> x.restore(), () -> m.restore());
        }
    }
}
