/** What the project's tests share: checks that count, and the calls whose refusals they look at. */
final class Check {
    private static int passed = 0;
    private static int failed = 0;
    private static final long MOST_SECONDS = 300;

    static {
        // A call that never ends would otherwise hold up all that comes behind it.
        Thread watch = new Thread(Check::stopLate);
        watch.setDaemon(true);
        watch.start();
    }

    private Check() {
    }

    private static void stopLate() {
        try {
            Thread.sleep(1000 * MOST_SECONDS);
        } catch (InterruptedException e) {
            return;
        }
        System.out.println("WRONG: the test does not end");
        Runtime.getRuntime().halt(1);
    }

    static void equal(String what, long want, long got) {
        that(what + " answered " + got + ", due is " + want, want == got);
    }

    static void equal(String what, double want, double got) {
        that(what + " answered " + got + ", due is " + want, want == got);
    }

    static void equal(String what, String want, String got) {
        that(what + " answered \"" + got + "\", due is \"" + want + "\"", want.equals(got));
    }

    static void that(String what, boolean holds) {
        if (holds) {
            passed++;
        } else {
            failed++;
            System.out.println("WRONG: " + what);
        }
    }

    static void throwing(String what, Class<? extends RuntimeException> want, Runnable call) {
        Class<?> got = null;
        try {
            call.run();
        } catch (RuntimeException e) {
            got = e.getClass();
        }
        that(what + " threw " + got + ", due is " + want, got == want);
    }

    static void outOfBounds(String what, Runnable call) {
        throwing(what, IndexOutOfBoundsException.class, call);
    }

    static void badArgument(String what, Runnable call) {
        throwing(what, IllegalArgumentException.class, call);
    }

    static void noElement(String what, Runnable call) {
        throwing(what, java.util.NoSuchElementException.class, call);
    }

    static void badState(String what, Runnable call) {
        throwing(what, IllegalStateException.class, call);
    }

    /** The call is refused for this reason with this detail, and leaves all that can be seen as it was. */
    static void refused(String what, RainCellar x, int reason, int detail, Runnable call) {
        String before = seen(x);
        throwing(what, UnsupportedOperationException.class, call);
        equal(what + ": state", before, seen(x));
        equal(what + ": reason", reason, x.reason(0));
        equal(what + ": detail", detail, x.reason(1));
    }

    /** All that can be seen of what undo and restore bring back, as one text. */
    static String seen(RainCellar x) {
        StringBuilder all = new StringBuilder();
        for (int what = 0; what <= 9; what++) {
            all.append(x.account(what)).append(' ');
        }
        for (int roof = 0; roof < 4; roof++) {
            all.append(x.roofOf(roof, 0)).append(' ');
        }
        for (int barrel = 0; barrel < x.account(0); barrel++) {
            all.append('|');
            for (int what = 0; what <= 6; what++) {
                all.append(x.barrelOf(barrel, what)).append(' ');
            }
        }
        int storms = x.account(5);
        for (int storm = Math.max(0, storms - 12); storm < storms; storm++) {
            all.append('#');
            for (int what = 0; what <= 2; what++) {
                all.append(x.stormOf(storm, what)).append(' ');
            }
        }
        for (int barrel = 0; barrel < x.account(0); barrel++) {
            all.append(x.noticing(barrel)).append(' ');
        }
        return all.toString();
    }

    static String written(RainCellar x, int length) {
        StringBuilder text = new StringBuilder();
        for (int k = 0; k < length; k++) {
            text.append(x.character(k));
        }
        return text.toString();
    }

    static String lineOf(RainCellar x, int barrel) {
        return written(x, x.line(barrel));
    }

    static String panelOf(RainCellar x) {
        return written(x, x.panel());
    }

    static void append(RainCellar x, String text) {
        for (int k = 0; k < text.length(); k++) {
            x.append(text.charAt(k));
        }
    }

    static int carryOut(RainCellar x, String text) {
        append(x, text);
        return x.commands();
    }

    /**
     * A new object after these changes, told as in a text but with blanks between them: each is a call of its own, and
     * a number may have more digits. "u" undoes, "S" saves, and "R" restores.
     */
    static RainCellar after(String calls) {
        RainCellar x = new RainCellar();
        for (String call : calls.trim().split(" +")) {
            if (!call.isEmpty()) {
                call(x, call);
            }
        }
        return x;
    }

    static void call(RainCellar x, String call) {
        int[] n = new int[3];
        int count = 0;
        for (String number : call.substring(1).split("[*>=]")) {
            n[count++] = number.isEmpty() ? 0 : Integer.parseInt(number);
        }
        switch (call.charAt(0)) {
            case 's' -> x.storm(n[0], n[1]);
            case 'b' -> x.barrel(n[0]);
            case 'x' -> x.takeAway(n[0]);
            case 'p' -> x.pour(n[0], n[1], n[2]);
            case 'h' -> x.hail(n[0], n[1]);
            case 'm' -> x.sommelier(n[0], false);
            case 't' -> x.sommelier(n[0], true);
            case 'l' -> x.leave(n[0]);
            case 'g' -> x.drink(n[0]);
            case 'c' -> x.clear(n[0]);
            case 'y' -> x.year();
            case 'u' -> x.undo();
            case 'S' -> x.save();
            case 'R' -> x.restore();
            default -> throw new IllegalArgumentException("no such change: " + call);
        }
    }

    /** How many checks there were so far. */
    static int count() {
        return passed + failed;
    }

    static void finish() {
        System.out.println((failed == 0 ? "all " : "") + passed + " checks hold, " + failed + " do not");
        if (failed != 0 || passed == 0) {
            System.exit(1);
        }
    }
}
