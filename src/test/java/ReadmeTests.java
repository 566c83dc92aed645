import java.io.IOException;
import java.lang.reflect.Method;
import java.lang.reflect.Modifier;
import java.nio.file.Files;
import java.nio.file.Path;
import java.util.function.Consumer;
import java.util.regex.Matcher;
import java.util.regex.Pattern;

/** What README.md tells of the use of the class: its examples hold, and it leaves no call and no test out. */
public final class ReadmeTests {
    private static String page = "";
    private static int examples = 0;

    private ReadmeTests() {
    }

    public static void main(String[] args) throws IOException {
        page = Files.readString(Path.of("README.md"));
        example();
        Check.equal("examples", Pattern.compile("; +// ").matcher(page).results().count(), examples);
        commandsAreTheCalls();
        allCallsAreNamed();
        allTestsAreNamed();
        Check.finish();
    }

    private static void example() {
        RainCellar cellar = new RainCellar();
        answer("cellar.barrel(2)", cellar.barrel(2));
        answer("cellar.storm(4, 1)", cellar.storm(4, 1));
        answer("cellar.note(0)", cellar.note(0));
        isThere("\"m4;h0=2;g0\".toCharArray()");
        Check.append(cellar, "m4;h0=2;g0");
        answer("cellar.commands()", cellar.commands());
        answer("cellar.line(0)", cellar.line(0));
        isThere("\"" + Check.lineOf(cellar, 0) + "\"");
        answer("cellar.character(2)", cellar.character(2));
        answer("cellar.undo()", cellar.undo());
        answer("cellar.hidden(0)", cellar.hidden(0));
        isThere("cellar.pour(0, 1, 5);");
        Check.throwing("pour", UnsupportedOperationException.class, () -> cellar.pour(0, 1, 5));
        answer("cellar.reason(0)", cellar.reason(0));
        answer("cellar.reason(1)", cellar.reason(1));
    }

    private static void isThere(String words) {
        Check.that("README.md has " + words, page.contains(words));
    }

    /** The page has the call with this answer. */
    private static void answer(String call, Object answer) {
        examples++;
        Pattern row = Pattern.compile("\n *" + Pattern.quote(call) + "; +// " + answer + "[:\n]");
        Check.that("README.md has " + call + " with " + answer, row.matcher(page).find());
    }

    /** Each command beside the call that leads to the same cellar. */
    private static void commandsAreTheCalls() {
        asText("s5*1", "storm(5, 1)", x -> x.storm(5, 1));
        asText("b2", "barrel(2)", x -> x.barrel(2));
        asText("x2", "takeAway(2)", x -> x.takeAway(2));
        asText("p0>1=12", "pour(0, 1, 12)", x -> x.pour(0, 1, 12));
        asText("h0=3", "hail(0, 3)", x -> x.hail(0, 3));
        asText("m4", "sommelier(4, false)", x -> x.sommelier(4, false));
        asText("t4", "sommelier(4, true)", x -> x.sommelier(4, true));
        asText("l0", "leave(0)", x -> x.leave(0));
        asText("g0", "drink(0)", x -> x.drink(0));
        asText("c3", "clear(3)", x -> x.clear(3));
        asText("y", "year()", x -> x.year());
    }

    private static void asText(String text, String call, Consumer<RainCellar> direct) {
        String before = "b3 s4*3 b1 b1 m2";
        RainCellar one = Check.after(before);
        RainCellar other = Check.after(before);
        Check.carryOut(one, text);
        direct.accept(other);
        Check.equal(text, Check.seen(other) + Check.panelOf(other), Check.seen(one) + Check.panelOf(one));
        Pattern row = Pattern.compile("\n\\|[^|\n]*" + Pattern.quote("`" + text + "`") + "[^|\n]*\\|[^|\n]*"
                + Pattern.quote("`" + call + "`"));
        Check.that("README.md has a row of " + text + " and " + call, row.matcher(page).find());
    }

    private static void allCallsAreNamed() {
        for (Method method : RainCellar.class.getDeclaredMethods()) {
            if (Modifier.isPublic(method.getModifiers())) {
                isThere("`" + method.getName() + "`");
            }
        }
    }

    private static void allTestsAreNamed() throws IOException {
        try (var files = Files.list(Path.of("src/test/java"))) {
            for (Path file : files.toList()) {
                Matcher name = Pattern.compile("(\\w+(Tests|Sentences))\\.java").matcher(file.getFileName().toString());
                if (name.matches() && !name.group(1).equals("Sentences")) {
                    isThere("| `" + name.group(1) + "` |");
                }
            }
        }
    }
}
