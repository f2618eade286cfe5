import java.io.File;
import java.io.IOException;
import java.lang.management.ManagementFactory;
import java.lang.reflect.Field;
import java.lang.reflect.Method;
import java.lang.reflect.Modifier;
import java.nio.file.Files;
import java.nio.file.Path;
import java.util.ArrayList;
import java.util.List;
import java.util.Random;
import java.util.Set;
import java.util.TreeSet;
import java.util.regex.Matcher;
import java.util.regex.Pattern;

/** The rules of ../shared/LANGUAGE.md, as far as a test can see whether the class keeps to them. */
public final class LanguageTest {
    private static final Check check = new Check();
    private static final List<Class<?>> classes = new ArrayList<>();
    private static final String FOLDER = "src/main/java";
    private static final Set<String> FORBIDDEN = Set.of("import", "package", "synchronized", "assert", "finally", "throw",
            "throws", "try", "catch", "static {", "->", "::", "while", "do", "protected", "System", "Math", "Object", "var",
            "equals", "hashCode", "toString", "instanceof", "double", "float");
    private static final int LONGEST_METHOD = 60, MOST_PARAMETERS = 7, MOST_CLASSES = 12, MOST_FIELDS = 20;

    public static void main(String[] args) throws IOException {
        classes.add(PermitSets.class);
        classes.addAll(List.of(PermitSets.class.getDeclaredClasses()));
        String source = withoutComments(Files.readString(Path.of(FOLDER, "PermitSets.java")));
        oneFile();
        names();
        classesInside();
        types();
        words(source);
        library(source);
        staticFields();
        sizes();
        lengths(source);
        loops(source);
        nothingIsThrown();
        nothingIsMade();
        check.end();
    }

    private static String withoutComments(String source) {
        return source.replaceAll("(?s)/\\*.*?\\*/", "").replaceAll("//[^\n]*", "");
    }

    private static void oneFile() {
        check.sentence("The program is one file");
        String[] files = new File(FOLDER).list();
        check.same("files in " + FOLDER, files == null ? 0 : files.length, 1);
    }

    private static void names() {
        check.sentence("1: No private method bears the name of a public one");
        TreeSet<String> face = new TreeSet<>();
        for (Method method : PermitSets.class.getDeclaredMethods()) {
            if (Modifier.isPublic(method.getModifiers())) {
                face.add(method.getName());
            }
        }
        check.same("calls of the face", face.size(), 15);
        for (Class<?> each : classes) {
            for (Method method : each.getDeclaredMethods()) {
                boolean isCall = Modifier.isPublic(method.getModifiers()) && each == PermitSets.class;
                check.no(each.getName() + "." + method.getName(), !isCall && face.contains(method.getName()));
            }
        }
    }

    private static void classesInside() {
        check.sentence("1: the classes inside it, which are private or package-visible and static");
        for (Class<?> inside : PermitSets.class.getDeclaredClasses()) {
            check.yes("static " + inside.getName(), Modifier.isStatic(inside.getModifiers()));
            check.no("public " + inside.getName(), Modifier.isPublic(inside.getModifiers()));
            check.no("protected " + inside.getName(), Modifier.isProtected(inside.getModifiers()));
            check.same("classes inside " + inside.getName(), inside.getDeclaredClasses().length, 0);
        }
    }

    private static void types() {
        check.sentence("3: Types");
        for (Class<?> each : classes) {
            for (Field field : each.getDeclaredFields()) {
                Class<?> type = field.getType().isArray() ? field.getType().getComponentType() : field.getType();
                check.yes(field.toString(), type.isPrimitive() || classes.contains(type));
            }
        }
    }

    private static void words(String source) {
        check.sentence("2, 3, 4, 6: what the program does without");
        for (String word : FORBIDDEN) {
            String edge = Character.isLetter(word.charAt(0)) ? "\\b" : "";
            boolean found = Pattern.compile(edge + Pattern.quote(word) + (word.endsWith("{") ? "" : edge)).matcher(source).find();
            check.no("the source has '" + word + "'", found);
        }
    }

    private static void library(String source) {
        check.sentence("4: The library: only what stands here");
        TreeSet<String> own = new TreeSet<>();
        for (Class<?> each : classes) {
            own.add(each.getSimpleName());
        }
        Matcher named = Pattern.compile("\\b([A-Z][a-z]\\w*)\\b(\\.\\w+\\()?").matcher(source);
        while (named.find()) {
            boolean isAllowed = own.contains(named.group(1)) || named.group().equals("Integer.bitCount(");
            check.yes("the source names " + named.group(), isAllowed);
        }
    }

    private static void staticFields() {
        check.sentence("5: Static fields are final: constants");
        for (Class<?> each : classes) {
            for (Field field : each.getDeclaredFields()) {
                if (Modifier.isStatic(field.getModifiers())) {
                    check.yes("final " + field, Modifier.isFinal(field.getModifiers()));
                    check.yes("a number " + field, field.getType().isPrimitive());
                }
            }
        }
    }

    private static void sizes() {
        check.sentence("11: classes, fields, parameters");
        check.yes("classes: " + classes.size(), classes.size() <= MOST_CLASSES);
        for (Class<?> each : classes) {
            int fields = 0;
            for (Field field : each.getDeclaredFields()) {
                fields += Modifier.isStatic(field.getModifiers()) ? 0 : 1;
            }
            check.yes("fields of " + each.getName() + ": " + fields, fields <= MOST_FIELDS);
            for (Method method : each.getDeclaredMethods()) {
                check.yes("parameters of " + method, method.getParameterCount() <= MOST_PARAMETERS);
            }
        }
    }

    /** A method begins at a line with ( that ends in { and is no statement, and ends where its brace does. */
    private static void lengths(String source) {
        check.sentence("11: Methods stay short");
        Pattern head = Pattern.compile("( +)(?! |if|else|for|switch)[\\w\\[\\] ]+\\([^;=]*\\) \\{");
        String[] lines = source.split("\n");
        int methods = 0;
        for (int i = 0; i < lines.length; i++) {
            Matcher matcher = head.matcher(lines[i]);
            if (matcher.matches()) {
                int end = i;
                while (end < lines.length - 1 && !lines[end].equals(matcher.group(1) + "}")) {
                    end++;
                }
                methods++;
                check.yes(lines[i].strip() + " " + (end - i + 1) + " lines", end - i < LONGEST_METHOD);
            }
        }
        check.yes("methods seen: " + methods, methods > 80);
    }

    private static void loops(String source) {
        check.sentence("9: Every loop has an end that can be seen from its own lines");
        Matcher loop = Pattern.compile("\\bfor \\((.*)\\) \\{").matcher(source);
        while (loop.find()) {
            check.yes(loop.group(), loop.group(1).matches("int (\\w+) = [^;]+; \\1 (<|>=) [^;]+; \\1(\\+\\+|--)"));
        }
    }

    private static void nothingIsThrown() {
        check.sentence("7: No call may ever throw by itself, for any arguments in any state");
        for (int seed = 0; seed < 20; seed++) {
            Random random = new Random(seed);
            PermitSets x = new PermitSets();
            int thrown = 0;
            for (int i = 0; i < 3000; i++) {
                try {
                    anyCall(x, random);
                } catch (RuntimeException | StackOverflowError wrong) {
                    thrown++;
                }
            }
            check.same("calls that threw", thrown, 0);
        }
    }

    private static void nothingIsMade() {
        check.sentence("12: What a run makes is counted: keep it small");
        com.sun.management.ThreadMXBean threads = (com.sun.management.ThreadMXBean) ManagementFactory.getThreadMXBean();
        PermitSets x = new PermitSets();
        check.same("add", every(x), 0);
        long before = threads.getCurrentThreadAllocatedBytes();
        for (int i = 0; i < 100; i++) {
            every(x);
        }
        long made = threads.getCurrentThreadAllocatedBytes() - before;
        check.yes("bytes that 2400 calls made: " + made, made < 2400);
    }

    /** Each call at least once, 24 in all; writing makes no object by itself. */
    private static int every(PermitSets x) {
        x.join(1, 2, 3);
        x.join(0, 1, 2);
        x.mark(1, 0, 3);
        x.thing(3, 6, 1);
        x.isIn(0, 1, 3);
        int number = Check.add(x, 1, "+@3**?{[h0:m0:l]+n<7|b&!(c#o)}!{f1&g2}?{h3};");
        x.size(1);
        x.policy(1, 0, 2);
        x.policy(1, 0, 3);
        x.policy(1, 0, 4);
        x.ask(1, 1000, 0);
        x.ask(1, 1000, 2);
        x.allows(1, 2);
        x.compare(2);
        x.needless(1, 0);
        x.drop(1, 0);
        x.leave(0, 1, 2);
        return number;
    }

    private static void anyCall(PermitSets x, Random random) {
        int a = any(random);
        int b = any(random);
        int c = any(random);
        switch (random.nextInt(17)) {
            case 0: x.join(a, b, c); break;
            case 1: x.leave(a, b, c); break;
            case 2: x.mark(a, b, c); break;
            case 3: x.thing(a, b, c); break;
            case 4: x.isIn(a, b, c); break;
            case 5: x.put(random.nextLong(), a); break;
            case 6: Check.append(x, "+***?{((((((1+m0<2"); break;
            case 7: Check.write(x, "+@0*@1?{h0&!!!!!!c|[b:m1<m2:T]};"); break;
            case 8: x.wipe(); break;
            case 9: x.add(a); break;
            case 10: x.drop(a, b); break;
            case 11: x.size(a); break;
            case 12: x.policy(a, b, c); break;
            case 13: x.ask(a, random.nextBoolean() ? b : random.nextInt(2048), c); break;
            case 14: x.allows(a, b); break;
            case 15: x.compare(a); break;
            default: x.needless(a, b);
        }
    }

    private static int any(Random random) {
        switch (random.nextInt(8)) {
            case 0: return random.nextInt();
            case 1: return random.nextBoolean() ? Integer.MAX_VALUE : Integer.MIN_VALUE;
            case 2: return -random.nextInt(4);
            case 3: return random.nextInt(10);
            default: return random.nextInt(4);
        }
    }
}
