import java.io.IOException;
import java.lang.reflect.Constructor;
import java.lang.reflect.Field;
import java.lang.reflect.Method;
import java.lang.reflect.Modifier;
import java.nio.file.Files;
import java.nio.file.Path;
import java.util.ArrayList;
import java.util.List;
import java.util.Set;
import java.util.TreeSet;
import java.util.regex.Matcher;
import java.util.regex.Pattern;

/** The face of the document, and those rules of LANGUAGE.md that can be read off class and source. */
public final class LanguageTest {
    private static final Path SOURCE = Path.of("src/main/java/LeaseOffice.java");
    private static final String[] FACE = {"person(int,int)", "tool(int)", "wish(int,int,int)", "fund(int,int)",
        "personOf(int,int)", "toolOf(int,int)", "link(int,int,int)", "seen(int,int,int)", "claimOf(int,int,int)",
        "ranked(int)", "lease(int,int,int)", "claim(int,int,int)", "waive(int,int)", "returned(int)", "pass(int,int)",
        "swap(int,int)", "use(int,int)", "look(int)", "days(int)", "why(int)", "told(int,int)", "share(int,int)",
        "swaps(int)", "ahead(int,int)", "judge(int,int)", "feed(int)", "script()", "image()", "back()",
        "hold(int,int,int)", "row(int,int)", "put(int,int,int)", "tells(int,int)", "count(int)"};
    private static final String[] FORBIDDEN = {"->", "::", "import ", "package ", "throw ", "try {", "catch (", "finally",
        "synchronized", "assert ", "System.out", "Exact(", "\"", "hashCode", "equals", "toString", "native ",
        "double ", "float "};

    public static void main(String[] args) throws IOException {
        theFace();
        theConstants();
        theClasses();
        theSource();
        Due.end();
    }

    private static void holds(String rule, boolean so) {
        Due.is(rule, so ? 1 : 0, 1);
    }

    private static void theFace() {
        Class<?> face = LeaseOffice.class;
        holds("rule 1: the class is public and final",
                Modifier.isPublic(face.getModifiers()) && Modifier.isFinal(face.getModifiers()));
        Constructor<?>[] constructors = face.getDeclaredConstructors();
        holds("rule 1: one constructor", constructors.length == 1 && constructors[0].getParameterCount() == 0
                && Modifier.isPublic(constructors[0].getModifiers()));
        Set<String> due = new TreeSet<>(List.of(FACE));
        Set<String> found = new TreeSet<>();
        for (Method method : face.getDeclaredMethods()) {
            if (Modifier.isPublic(method.getModifiers())) {
                List<String> types = new ArrayList<>();
                for (Class<?> type : method.getParameterTypes()) {
                    types.add(type.getName());
                }
                found.add(method.getName() + "(" + String.join(",", types) + ")");
                holds(method + " answers an int", method.getReturnType() == int.class);
            } else {
                holds("rule 1: " + method + " is private", Modifier.isPrivate(method.getModifiers()));
            }
        }
        holds("rule 1: the methods are those of the document", found.equals(due));
        for (Field field : face.getDeclaredFields()) {
            boolean ofTheFace = Set.of("BAD", "NOT", "FULL", "STATE", "VOID").contains(field.getName());
            holds("rule 1: " + field, ofTheFace ? Modifier.isPublic(field.getModifiers())
                    : Modifier.isPrivate(field.getModifiers()));
        }
    }

    private static void theConstants() {
        Due.is("BAD", LeaseOffice.BAD, -1);
        Due.is("NOT", LeaseOffice.NOT, -2);
        Due.is("FULL", LeaseOffice.FULL, -3);
        Due.is("STATE", LeaseOffice.STATE, -5);
        Due.is("VOID", LeaseOffice.VOID, -2000000000);
    }

    private static void theClasses() {
        Set<String> faceNames = new TreeSet<>();
        for (String method : FACE) {
            faceNames.add(method.substring(0, method.indexOf('(')));
        }
        List<Class<?>> all = new ArrayList<>(List.of(LeaseOffice.class));
        for (Class<?> inside : LeaseOffice.class.getDeclaredClasses()) {
            all.add(inside);
            holds("rule 1: " + inside + " is private and static",
                    Modifier.isPrivate(inside.getModifiers()) && Modifier.isStatic(inside.getModifiers()));
            for (Method method : inside.getDeclaredMethods()) {
                holds("rule 1: the face alone has the name of " + method, !faceNames.contains(method.getName()));
            }
        }
        holds("rule 11: some twelve classes", all.size() <= 12);
        for (Class<?> each : all) {
            int fields = 0;
            for (Field field : each.getDeclaredFields()) {
                boolean isStatic = Modifier.isStatic(field.getModifiers());
                holds("rule 5: " + field, !isStatic || Modifier.isFinal(field.getModifiers()));
                fields += isStatic ? 0 : 1;
            }
            holds("rule 11: some twenty fields in " + each, fields <= 20);
            for (Method method : each.getDeclaredMethods()) {
                holds("rule 11: seven parameters of " + method, method.getParameterCount() <= 7);
            }
        }
    }

    private static void theSource() throws IOException {
        List<String> lines = Files.readAllLines(SOURCE);
        int methodBegin = -1;
        for (int i = 0; i < lines.size(); i++) {
            String line = lines.get(i);
            String code = line.trim();
            boolean isComment = code.startsWith("//") || code.startsWith("*") || code.startsWith("/*");
            for (String word : isComment ? new String[0] : FORBIDDEN) {
                holds("line " + (i + 1) + " has no " + word, !code.contains(word));
            }
            holds("line " + (i + 1) + " is of plain signs", line.chars().allMatch(sign -> sign < 127));
            boolean opensMember = line.matches(" {4}( {4})?[a-zA-Z].*\\{") && !line.contains("class ");
            if (opensMember) {
                methodBegin = i;
            }
            if (line.matches(" {4}( {4})?\\}") && methodBegin >= 0) {
                String name = "the method of line " + (methodBegin + 1);
                String method = String.join("\n", lines.subList(methodBegin, i + 1));
                holds("rule 11: " + name + " is short", i - methodBegin <= 60);
                indexesAreTested(name, method);
                divisorsAreTested(name, method);
                loopsEnd(name, method);
                methodBegin = -1;
            }
            Matcher length = Pattern.compile("\\bnew \\w+\\[([^\\]]*)\\]").matcher(code);
            while (length.find()) {
                holds("rule 7: line " + (i + 1) + " tests a length: " + length.group(),
                        length.group(1).matches("[A-Z_]+|Math\\.max\\(.*, 0\\)"));
            }
            // What a constructor hands on would stand between these brackets: a constant or a number may.
            Matcher made = Pattern.compile("\\bnew [A-Z]\\w*\\(([^)]*)\\)").matcher(code);
            while (made.find()) {
                holds("rule 12: line " + (i + 1) + " hands nothing of the object on: " + made.group(),
                        made.group(1).matches("[A-Z_0-9, ]*"));
            }
        }
    }

    /** Each index is a plain variable, which the same method holds against 0 and the array's length. */
    private static void indexesAreTested(String name, String method) {
        Matcher used = Pattern.compile("(\\w+)\\[([^\\]]+)\\]").matcher(method.replaceAll("new int\\[.*?\\];", ""));
        while (used.find()) {
            String index = used.group(2);
            holds("rule 7: " + name + " tests " + used.group(), index.matches("[a-z]+")
                    && (method.contains(index + " >= 0") || method.contains("int " + index + " = 0;"))
                    && method.contains(index + " < " + used.group(1) + ".length"));
        }
    }

    /** A divisor is a constant, or the same method leaves where it is not above 0. */
    private static void divisorsAreTested(String name, String method) {
        Matcher used = Pattern.compile(" [/%]=? ([^ ;),]+)").matcher(method);
        while (used.find()) {
            String divisor = used.group(1);
            holds("rule 7: " + name + " tests " + divisor,
                    divisor.matches("[1-9]\\d*|LETTERS") || method.contains("if (" + divisor + " <= 0"));
        }
    }

    /** A loop's own line holds a counter against a bound. */
    private static void loopsEnd(String name, String method) {
        Matcher loop = Pattern.compile("\\b(for|while) \\((.*)\\) \\{").matcher(method);
        while (loop.find()) {
            holds("rule 9: " + name + " has an end to " + loop.group(), loop.group(2).matches(".*\\w+ (<|>|>=) \\S+.*"));
        }
    }
}
