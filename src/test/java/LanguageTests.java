import java.io.IOException;
import java.lang.reflect.Constructor;
import java.lang.reflect.Field;
import java.lang.reflect.Method;
import java.lang.reflect.Modifier;
import java.nio.file.Files;
import java.nio.file.Path;
import java.util.Map;
import java.util.Set;
import java.util.TreeMap;
import java.util.TreeSet;
import java.util.regex.Matcher;
import java.util.regex.Pattern;

/** The rules of LANGUAGE.md that can be asked of the source or of the class. */
public final class LanguageTests {
    private static final Path SOURCE = Path.of("src/main/java/RainCellar.java");
    private static final Path DOCUMENT = Path.of("../shared/DOC.md");

    private static final String EXCEPTION =
            "(IllegalState|IllegalArgument|IndexOutOfBounds|Arithmetic|UnsupportedOperation|NoSuchElement)Exception";

    private LanguageTests() {
    }

    public static void main(String[] args) throws IOException {
        String source = Files.readString(SOURCE);
        face(Files.readString(DOCUMENT));
        hiddenMembers();
        insideClasses();
        String code = source.replaceAll("(?s)/\\*.*?\\*/|//[^\\n]*", " ");
        words(code);
        shortMethods(code);
        signs(source);
        Check.finish();
    }

    /** Rule 1: the face is the document's, to the letter. */
    private static void face(String document) {
        Set<String> due = new TreeSet<>();
        int from = document.indexOf("public final class RainCellar");
        String block = document.substring(from, document.indexOf("```", from));
        Matcher m = Pattern.compile("public (\\w+) (\\w+)\\(([^)]*)\\)([^;]*);").matcher(block);
        while (m.find()) {
            String types = m.group(3).replaceAll("(\\w+) \\w+", "$1").replace(" ", "");
            due.add(m.group(1) + " " + m.group(2) + "(" + types + ")" + m.group(4).replace(" ", ""));
        }
        Set<String> got = new TreeSet<>();
        for (Method method : RainCellar.class.getDeclaredMethods()) {
            if (Modifier.isPublic(method.getModifiers())) {
                got.add(signature(method));
            }
        }
        Check.equal("how many methods the document has", 39, due.size());
        Check.equal("the face", due.toString(), got.toString());
        Constructor<?>[] constructors = RainCellar.class.getDeclaredConstructors();
        Check.equal("constructors", 1, constructors.length);
        Check.that("it is public and takes nothing", Modifier.isPublic(constructors[0].getModifiers())
                && constructors[0].getParameterCount() == 0);
        Check.that("the class is final", Modifier.isFinal(RainCellar.class.getModifiers()));
    }

    private static String signature(Method method) {
        StringBuilder all = new StringBuilder();
        for (Class<?> type : method.getParameterTypes()) {
            all.append(all.length() == 0 ? "" : ",").append(type.getSimpleName());
        }
        StringBuilder thrown = new StringBuilder();
        for (Class<?> type : method.getExceptionTypes()) {
            thrown.append(thrown.length() == 0 ? "throws" : ",").append(type.getSimpleName());
        }
        return method.getReturnType().getSimpleName() + " " + method.getName() + "(" + all + ")" + thrown;
    }

    /** Rule 1: all else is private, and bears no name of the face. Rule 5: static fields are final. */
    private static void hiddenMembers() {
        Set<String> face = new TreeSet<>();
        for (Method method : RainCellar.class.getDeclaredMethods()) {
            if (Modifier.isPublic(method.getModifiers())) {
                face.add(method.getName());
            }
        }
        for (Method method : RainCellar.class.getDeclaredMethods()) {
            if (!Modifier.isPublic(method.getModifiers())) {
                Check.that(method + " is private", Modifier.isPrivate(method.getModifiers()));
                Check.that(method + " has a name of its own", !face.contains(method.getName()));
            }
        }
        for (Field field : RainCellar.class.getDeclaredFields()) {
            Check.that(field + " is private", Modifier.isPrivate(field.getModifiers()));
            checkField(field);
        }
        for (Class<?> inside : RainCellar.class.getDeclaredClasses()) {
            for (Method method : inside.getDeclaredMethods()) {
                Check.that(method + " has a name of its own",
                        !Modifier.isPrivate(method.getModifiers()) || !face.contains(method.getName()));
            }
        }
    }

    private static void checkField(Field field) {
        if (Modifier.isStatic(field.getModifiers())) {
            Check.that(field + " is final", Modifier.isFinal(field.getModifiers()));
        }
    }

    /** Rules 2 and 11: few classes inside, each static and not public, none with too many fields. */
    private static void insideClasses() {
        Class<?>[] inside = RainCellar.class.getDeclaredClasses();
        Check.that("classes inside: " + inside.length, inside.length <= 11);
        for (Class<?> one : inside) {
            int modifiers = one.getModifiers();
            Check.that(one + " is static", Modifier.isStatic(modifiers));
            Check.that(one + " is hidden", !Modifier.isPublic(modifiers) && !Modifier.isProtected(modifiers));
            int fields = 0;
            for (Field field : one.getDeclaredFields()) {
                checkField(field);
                fields += Modifier.isStatic(field.getModifiers()) ? 0 : 1;
            }
            Check.that(one + " has " + fields + " fields", fields <= 20);
            for (Method method : one.getDeclaredMethods()) {
                Check.that(method + " takes few", method.getParameterCount() <= 7);
            }
        }
    }

    /** Rules 3, 4, 6, 12 and 13: words that the language has not, and the exceptions that it has. */
    private static void words(String code) {
        String[] banned = {"\\bpackage\\b", "::", "\\bfinally\\b", "\\bassert\\b", "\\bsynchronized\\b",
            "\\bprotected\\b", "\\bSystem\\.(?!arraycopy)", "\\bThread\\b", "\\bRandom\\b", "\\bObject\\b",
            "\\bhashCode\\b", "\\btoString\\b", "\\bvar\\b", "Exact\\b", "\\+ *\"", "\" *\\+", "static \\{",
            "\\btry *\\(", "\\bextends \\w*Exception\\b"};
        for (String word : banned) {
            Check.that("no " + word, !Pattern.compile(word).matcher(code).find());
        }
        Matcher imports = Pattern.compile("import ([^;]*);").matcher(code);
        while (imports.find()) {
            Check.that("import " + imports.group(1), imports.group(1).matches(
                    "java\\.util\\.(NoSuchElementException|ArrayList|List|Arrays|Iterator)"));
        }
        Matcher thrown = Pattern.compile("\\bthrow\\b([^;]*);").matcher(code);
        while (thrown.find()) {
            Check.that("throw" + thrown.group(1),
                    thrown.group(1).matches(" new " + EXCEPTION + "\\((\"[^\"]*\")?\\)"));
        }
        Matcher caught = Pattern.compile("\\bcatch *\\(([^)]*)\\)").matcher(code);
        while (caught.find()) {
            Check.that("catch " + caught.group(1), caught.group(1).matches(EXCEPTION + "( *\\| *" + EXCEPTION + ")* \\w+"));
        }
    }

    /** Rule 11: methods stay short, and calls go at most eight deep. Methods of one name count as one. */
    private static void shortMethods(String code) {
        Map<String, String> bodies = new TreeMap<>();
        Matcher head = Pattern.compile("[\\w\\]] (\\w+)\\([^()]*\\)(\\s+throws [\\w, ]+)? \\{").matcher(code);
        while (head.find()) {
            if (!head.group(1).matches("if|for|while|switch")) {
                String body = code.substring(head.end(), closing(code, head.end()));
                Check.that(head.group(1) + " stays short", body.split("\n").length <= 60);
                bodies.merge(head.group(1), body, String::concat);
            }
        }
        Check.that("the methods are found", bodies.size() > 39);
        for (String name : bodies.keySet()) {
            int depth = depthOf(name, bodies, 1);
            Check.that(name + " goes " + depth + " deep", depth <= 8);
        }
    }

    /** Returns the place of the brace that closes what is open at this one. */
    private static int closing(String code, int from) {
        int open = 1;
        int at = from;
        for (; at < code.length() && open > 0; at++) {
            open += code.charAt(at) == '{' ? 1 : code.charAt(at) == '}' ? -1 : 0;
        }
        return at;
    }

    private static int depthOf(String name, Map<String, String> bodies, int depth) {
        int deepest = depth;
        Matcher call = Pattern.compile("\\b(\\w+)\\(").matcher(bodies.get(name));
        while (depth < 20 && call.find()) {
            String called = call.group(1);
            if (bodies.containsKey(called)) {
                boolean isSelf = called.equals(name);
                deepest = Math.max(deepest, isSelf ? depth + 1 : depthOf(called, bodies, depth + 1));
            }
        }
        return deepest;
    }

    private static void signs(String source) {
        for (int k = 0; k < source.length(); k++) {
            if (source.charAt(k) > 126) {
                Check.that("sign " + k + " of the source is beyond 126", false);
            }
        }
    }
}
