import java.lang.management.ManagementFactory;
import java.lang.reflect.Constructor;
import java.lang.reflect.Field;
import java.lang.reflect.Method;
import java.lang.reflect.Modifier;
import java.nio.charset.StandardCharsets;
import java.nio.file.Files;
import java.nio.file.Path;
import java.util.HashSet;
import java.util.List;
import java.util.Set;
import java.util.regex.Matcher;
import java.util.regex.Pattern;

/** The rules of LANGUAGE.md that can be seen in the source or in the compiled class, and how much calls make. */
public final class LanguageTest {
    private static final Path SOURCE = Path.of("src/main/java/SmokeRings.java");
    private static final Path DOCUMENT = Path.of("../shared/DOC.md");
    private static final String FACE = "ring ofRing end wall law ofLaw as turn does pair hole stroke trails feed text gives"
        + " ticks breeze front then whole turns far knock farthest second alike off spun made heart seed voice trace"
        + " sheet put move film image restore tell check count told";
    private static int wrong = 0;

    public static void main(String[] args) throws Exception {
        faceIsTheDocuments();
        faceTakesWhatTheDocumentHas();
        classesInsideAreInBounds();
        sourceHasNothingElse();
        methodsAreShort();
        callsMakeLittle();
        System.out.println(wrong == 0 ? "the rules are kept" : wrong + " rules are not kept");
        if (wrong != 0) {
            System.exit(1);
        }
    }

    private static void rule(int number, boolean kept, String what) {
        if (!kept) {
            wrong++;
            System.out.println("rule " + number + ": " + what);
        }
    }

    private static void faceIsTheDocuments() {
        Set<String> face = new HashSet<>(List.of(FACE.split(" ")));
        Class<?> main = SmokeRings.class;
        rule(1, Modifier.isPublic(main.getModifiers()) && Modifier.isFinal(main.getModifiers()), "public and final");
        rule(1, main.getDeclaredConstructors().length == 1, "one constructor");
        Set<String> found = new HashSet<>();
        for (Method method : main.getDeclaredMethods()) {
            boolean isPublic = Modifier.isPublic(method.getModifiers());
            boolean isPrivate = Modifier.isPrivate(method.getModifiers());
            rule(1, isPublic || isPrivate, "visible in the package: " + method);
            rule(1, isPublic == face.contains(method.getName()), "not as the face has it: " + method);
            if (isPublic) {
                rule(1, found.add(method.getName()), "twice: " + method);
                rule(1, method.getReturnType() == int.class, "answers no int: " + method);
            }
        }
        rule(1, found.equals(face), "the face is not whole");
        for (Field field : main.getDeclaredFields()) {
            rule(1, Modifier.isPrivate(field.getModifiers()), "not private: " + field);
        }
        for (Class<?> inside : main.getDeclaredClasses()) {
            for (Method method : inside.getDeclaredMethods()) {
                rule(1, !face.contains(method.getName()), "named as one of the face: " + method);
            }
        }
    }

    /** The face to the letter: the lines of the document's own block, with the types of what calls take. */
    private static void faceTakesWhatTheDocumentHas() throws Exception {
        String document = Files.readString(DOCUMENT, StandardCharsets.UTF_8);
        Set<String> due = new HashSet<>();
        Matcher line = Pattern.compile("(?m)^    public (\\w+ )?(\\w+)\\((.*)\\);$").matcher(document);
        while (line.find()) {
            due.add((line.group(1) == null ? "" : line.group(1)) + line.group(2) + "("
                + line.group(3).replaceAll("(\\w+) \\w+", "$1") + ")");
        }
        Set<String> found = new HashSet<>();
        for (Constructor<?> made : SmokeRings.class.getConstructors()) {
            found.add(made.getName() + types(made.getParameterTypes()));
        }
        for (Method method : SmokeRings.class.getMethods()) {
            if (method.getDeclaringClass() == SmokeRings.class) {
                found.add(method.getReturnType() + " " + method.getName() + types(method.getParameterTypes()));
            }
        }
        rule(1, due.size() == 45 && found.equals(due), "the face is " + found + ", the document's " + due);
    }

    private static String types(Class<?>[] types) {
        StringBuilder told = new StringBuilder("(");
        for (Class<?> type : types) {
            told.append(told.length() == 1 ? "" : ", ").append(type.getName());
        }
        return told.append(")").toString();
    }

    private static void classesInsideAreInBounds() {
        Class<?>[] inside = SmokeRings.class.getDeclaredClasses();
        rule(11, inside.length + 1 <= 12, "more than twelve classes");
        for (Class<?> each : inside) {
            rule(2, Modifier.isStatic(each.getModifiers()), "not static: " + each);
            rule(1, !Modifier.isPublic(each.getModifiers()), "public: " + each);
            checkFields(each);
        }
        checkFields(SmokeRings.class);
    }

    private static void checkFields(Class<?> each) {
        int own = 0;
        for (Field field : each.getDeclaredFields()) {
            if (Modifier.isStatic(field.getModifiers())) {
                Class<?> type = field.getType();
                rule(5, Modifier.isFinal(field.getModifiers()) && (type == int.class || type == long.class
                    || type == boolean.class || type == char.class || type == String.class), "static: " + field);
            } else {
                own++;
            }
        }
        rule(11, own <= 20, "more than twenty fields: " + each);
        for (Method method : each.getDeclaredMethods()) {
            rule(11, method.getParameterCount() <= 7, "more than seven parameters: " + method);
        }
    }

    private static void sourceHasNothingElse() throws Exception {
        String source = Files.readString(SOURCE, StandardCharsets.UTF_8);
        for (int i = 0; i < source.length(); i++) {
            rule(4, source.charAt(i) < 127, "a sign above 126");
        }
        String code = source.replaceAll("(?s)/\\*.*?\\*/", "").replaceAll("//[^\n]*", "")
            .replaceAll("\"[^\"\n]*\"", "TEXT").replaceAll("'[^'\n]'", "SIGN");
        rule(1, !code.contains("package "), "a package line");
        String[] forbidden = {"throw", "throws", "try", "catch", "finally", "synchronized", "assert", "double", "float",
            "hashCode", "toString", "equals", "System\\.out", "Random", "Thread", "goto", "native", "volatile",
            "transient", "protected"};
        for (String word : forbidden) {
            rule(6, !Pattern.compile("\\b" + word + "\\b").matcher(code).find(), "the word " + word);
        }
        rule(2, !code.contains("->") && !code.contains("::"), "a lambda or a method reference");
        divisorsAreLookedAt(code);
        Matcher imports = Pattern.compile("import ([^;]+);").matcher(code);
        while (imports.find()) {
            rule(4, imports.group(1).equals("java.util.Arrays"), "import of " + imports.group(1));
        }
        Matcher library = Pattern.compile("\\b(Math|Arrays|System|Integer|Long)\\.(\\w+)").matcher(code);
        Set<String> allowed = Set.of("Math.abs", "Math.min", "Math.max", "Arrays.fill", "System.arraycopy");
        while (library.find()) {
            rule(4, allowed.contains(library.group()), "the library's " + library.group());
        }
    }

    /** What divides is a number that stands there, or was asked for being 0 in the same line. */
    private static void divisorsAreLookedAt(String code) {
        String rest = code.replaceAll("[^\n]* == 0 \\? 0 : [^\n]*", "");
        Matcher divisor = Pattern.compile("[/%]=? *(?![0-9/%= ])[^\n]*").matcher(rest);
        while (divisor.find()) {
            rule(7, false, "a divisor that was not looked at: " + divisor.group());
        }
    }

    private static void methodsAreShort() throws Exception {
        Pattern head = Pattern.compile("^( {8}| {4})[\\w\\[\\] ]+\\([^;]*\\{$|^( {8}| {4})[\\w\\[\\] ]+\\([^;{]*$");
        int from = -1;
        String close = "";
        List<String> lines = Files.readAllLines(SOURCE);
        for (int i = 0; i < lines.size(); i++) {
            Matcher matcher = head.matcher(lines.get(i));
            if (from < 0 && matcher.find()) {
                from = i;
                close = (matcher.group(1) != null ? matcher.group(1) : matcher.group(2)) + "}";
            } else if (from >= 0 && lines.get(i).equals(close)) {
                rule(11, i - from < 60, "a long method in line " + (from + 1));
                from = -1;
            }
        }
    }

    /** All calls of a run live in one room that nothing leaves: what 512 of the dearest make has to stay small. */
    private static void callsMakeLittle() {
        com.sun.management.ThreadMXBean threads =
            (com.sun.management.ThreadMXBean) ManagementFactory.getThreadMXBean();
        long thread = Thread.currentThread().getId();
        runOfCalls();
        long before = threads.getThreadAllocatedBytes(thread);
        runOfCalls();
        long made = threads.getThreadAllocatedBytes(thread) - before;
        rule(12, made < 40000, "a run of 500 calls makes " + made + " bytes");
    }

    private static void runOfCalls() {
        SmokeRings s = new SmokeRings();
        for (int i = 0; i < 6; i++) {
            s.law(i, 3);
            s.ring(200001000 + 2000 * i, 1, 90, 2004);
        }
        s.sheet(0, 32, 40);
        for (int i = 0; i < 18; i++) {
            s.film(0);
            s.spun(0);
            s.made(0);
            s.off(0);
            s.second(10, 2, 30);
            s.alike(10, 200);
            s.farthest(10, 10, 10);
            s.heart(500);
            s.then(60, 0, 0);
            s.turns(60);
            s.far(60, 0);
            s.knock(60, 0, 99999);
            s.whole(60);
            s.feed(0x31, 1);
            s.text(i % 2);
            s.voice(4, 3, 9);
            s.tell(0);
            s.check(60);
            s.image();
            s.restore();
            s.ticks(1);
            s.breeze(1);
            s.move(0, 0, 0, 1, 39);
            s.gives(0, 1, 2, 3);
            s.sheet(0, 16, 40);
            s.count(99);
            s.law(0, 0);
        }
    }
}
