import java.io.IOException;
import java.nio.file.Files;
import java.nio.file.Path;
import java.util.LinkedHashMap;
import java.util.Map;
import java.util.function.Consumer;

/**
 * What the tests of single sentences share. A test is written behind the sentence that it is for; the sentence has to
 * stand in the document, and at the end no sentence of the document may be without a test.
 */
abstract class Sentences {
    private static final Path DOCUMENT = Path.of("../shared/DOC.md");
    /** What is left of each part of the document when the sentences with tests are taken out. */
    private static final Map<String, String> LEFT = new LinkedHashMap<>();
    private static String part = "";
    private static String sentence = "";

    /** Reads the terms and the promises, without the heads and the methods' headers. */
    static void readDocument() throws IOException {
        for (String text : Files.readString(DOCUMENT).split("\n## ")) {
            int end = text.indexOf('\n');
            String head = end < 0 ? text : text.substring(0, end).replaceAll(":.*", "");
            if (head.equals("Terms") || head.startsWith("Promise ")) {
                String words = text.substring(end).replaceAll("\\s+", " ").trim();
                LEFT.put(head, words.replaceAll("^`[^`]*`: ", ""));
            }
        }
        Check.equal("the terms and the promises", 41, LEFT.size());
    }

    static void part(String head) {
        part = head;
        sentence = "";
        isSo("the document has this part", LEFT.containsKey(head));
    }

    static void says(String words, Runnable test) {
        sentence = words;
        String left = LEFT.getOrDefault(part, "");
        int from = left.indexOf(words);
        isSo("the document says so", from >= 0);
        if (from >= 0) {
            LEFT.put(part, left.substring(0, from) + "|" + left.substring(from + words.length()));
        }
        int before = Check.count();
        try {
            test.run();
        } catch (RuntimeException e) {
            isSo("nothing else is thrown, but " + e, false);
        }
        isSo("something is checked", Check.count() > before);
    }

    /** Each sentence has to have a test. */
    static void allIsSaid() {
        for (Map.Entry<String, String> one : LEFT.entrySet()) {
            part = one.getKey();
            sentence = "";
            isSo("no test is for: " + one.getValue(), one.getValue().matches("[| ]*"));
        }
    }

    private static String label(String what) {
        return part + ", \"" + sentence + "\": " + what;
    }

    static void due(String what, long want, long got) {
        Check.equal(label(what), want, got);
    }

    static void due(String what, double want, double got) {
        Check.equal(label(what), want, got);
    }

    static void due(String what, String want, String got) {
        Check.equal(label(what), want, got);
    }

    static void isSo(String what, boolean holds) {
        Check.that(label(what), holds);
    }

    static RainCellar after(String calls) {
        return Check.after(calls);
    }

    static String line(RainCellar x, int barrel) {
        return Check.lineOf(x, barrel);
    }

    /** All lines of barrels, with a blank between two. */
    static String lines(RainCellar x) {
        StringBuilder all = new StringBuilder();
        for (int barrel = 0; barrel < x.account(0); barrel++) {
            all.append(barrel == 0 ? "" : " ").append(line(x, barrel));
        }
        return all.toString();
    }

    static String seen(RainCellar x) {
        return Check.seen(x) + " " + Check.panelOf(x);
    }

    /** What of the object does not belong to what can be undone, but for the line. */
    static String around(RainCellar x) {
        String reason = "none";
        try {
            reason = x.reason(0) + " " + x.reason(1) + " " + x.reason(2);
        } catch (java.util.NoSuchElementException e) {
            // Nothing was refused so far.
        }
        return x.account(10) + "/" + x.account(11) + "/" + x.faultPosition() + "/" + reason;
    }

    /** What undoing all and restoring lead back to. */
    private static String wayBack(RainCellar x) {
        for (int changes = 0; changes < 20 && x.account(10) > 0; changes++) {
            x.undo();
        }
        String first = seen(x);
        try {
            x.restore();
        } catch (IllegalStateException e) {
            return first + " and nothing saved";
        }
        return first + " and " + seen(x);
    }

    /** The call is refused after these calls, for this reason, and leaves everything else as it was. */
    static void refused(String calls, int reason, int detail, Consumer<RainCellar> call) {
        refused(calls, reason, detail, 0, call);
    }

    static void refused(String calls, int reason, int detail, int command, Consumer<RainCellar> call) {
        RainCellar x = after(calls);
        RainCellar twin = after(calls);
        String what = "after " + calls + ": ";
        String before = seen(x);
        due(what + "what is thrown", "UnsupportedOperationException", thrown(x, call));
        due(what + "reason", reason, x.reason(0));
        due(what + "detail", detail, x.reason(1));
        due(what + "index of the command", command, x.reason(2));
        due(what + "state", before, seen(x));
        due(what + "changes that can be undone", twin.account(10), x.account(10));
        due(what + "the way back", wayBack(twin), wayBack(x));
    }

    /** The text is refused for its command of this index. */
    static void refusedText(String calls, String text, int reason, int detail, int command) {
        refused(calls, reason, detail, command, x -> Check.carryOut(x, text));
    }

    /** The call throws this after these calls, and leaves everything as it was. */
    static void throwing(String calls, String name, Consumer<RainCellar> call) {
        RainCellar x = after(calls);
        RainCellar twin = after(calls);
        String what = "after " + calls + ": ";
        String before = seen(x) + around(x);
        due(what + "what is thrown", name, thrown(x, call));
        due(what + "state", before, seen(x) + around(x));
        due(what + "the way back", wayBack(twin), wayBack(x));
    }

    static void noIndex(String calls, Consumer<RainCellar> call) {
        throwing(calls, "IndexOutOfBoundsException", call);
    }

    static void badArgument(String calls, Consumer<RainCellar> call) {
        throwing(calls, "IllegalArgumentException", call);
    }

    static void noElement(String calls, Consumer<RainCellar> call) {
        throwing(calls, "NoSuchElementException", call);
    }

    static void badState(String calls, Consumer<RainCellar> call) {
        throwing(calls, "IllegalStateException", call);
    }

    static String thrown(RainCellar x, Consumer<RainCellar> call) {
        try {
            call.accept(x);
        } catch (RuntimeException e) {
            return e.getClass().getSimpleName();
        }
        return "nothing";
    }

    /** The text has a fault at this place; nothing is carried out. */
    static void fault(String text, int place) {
        RainCellar x = after("b0 s1*1 m0");
        String before = seen(x);
        due("text " + text + ": what is thrown", "IllegalArgumentException", thrown(x, y -> Check.carryOut(y, text)));
        due("text " + text + ": fault position", place, x.faultPosition());
        due("text " + text + ": state", before, seen(x));
    }

    /** Makes a barrel 0 of storm 0, which has this much rain, at least a litre, and hail; barrel 1 has the rest. */
    static RainCellar holding(int rain, int hail) {
        RainCellar x = after("b3 s5*3 b0");
        if (rain < 20) {
            x.pour(0, 1, 20 - rain);
        }
        for (int left = hail; left > 0;) {
            int litres = Math.min(left, x.account(2));
            x.hail(0, litres);
            x.storm(1, 3);
            left -= litres;
        }
        return x;
    }

    /** Makes a barrel 0 that has hail alone. */
    static RainCellar holdingHailAlone(int hail) {
        RainCellar x = holding(1, hail);
        x.pour(0, x.barrel(0), 1);
        return x;
    }
}
