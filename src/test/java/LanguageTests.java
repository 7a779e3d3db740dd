import java.io.IOException;
import java.lang.reflect.Executable;
import java.lang.reflect.Field;
import java.lang.reflect.Member;
import java.lang.reflect.Method;
import java.lang.reflect.Modifier;
import java.nio.charset.StandardCharsets;
import java.nio.file.Files;
import java.nio.file.Path;
import java.util.ArrayList;
import java.util.Arrays;
import java.util.List;
import java.util.Set;
import java.util.TreeSet;
import java.util.regex.Matcher;
import java.util.regex.Pattern;

/** The face of the class and those rules of ../shared/LANGUAGE.md that can be read off its file. */
final class LanguageTests {
    private static final Path SOURCE = Path.of("src/main/java/WineCooperative.java");
    private static final Path DOCUMENT = Path.of("../shared/DOC.md");
    private static final int MOST_CLASSES = 12;
    private static final int MOST_FIELDS = 20;
    private static final int MOST_LINES = 60;
    private static final int MOST_PARAMETERS = 7;

    private LanguageTests() {
    }

    public static void main(String[] args) throws IOException {
        face();
        members();
        source();
        room();
        Check.finish("LanguageTests");
    }

    private static void face() throws IOException {
        Check.part("rule 1, the face");
        Set<String> due = new TreeSet<>();
        String text = Files.readString(DOCUMENT, StandardCharsets.UTF_8);
        String block = text.substring(text.indexOf("```java"), text.indexOf("## Terms"));
        Matcher line = Pattern.compile("public (\\w+) (\\w+)\\((.*?)\\)(?: throws ([^;]+))?;").matcher(block);
        while (line.find()) {
            due.add(line.group(1) + " " + line.group(2) + "(" + line.group(3).replaceAll("(\\w+) \\w+", "$1") + ")"
                    + (line.group(4) == null ? "" : " throws " + line.group(4)));
        }
        Set<String> got = new TreeSet<>();
        for (Method method : WineCooperative.class.getDeclaredMethods()) {
            if (Modifier.isPublic(method.getModifiers())) {
                got.add(signature(method));
            }
        }
        Check.same("methods", got, due);
        Check.same("number of methods", got.size(), 64);
        int modifiers = WineCooperative.class.getModifiers();
        Check.same("class", modifiers, Modifier.PUBLIC | Modifier.FINAL);
        Check.same("constructors", WineCooperative.class.getConstructors().length, 1);
        Check.same("public fields", WineCooperative.class.getFields().length, 1);
    }

    private static String signature(Method method) {
        StringBuilder all = new StringBuilder();
        all.append(method.getReturnType()).append(' ').append(method.getName()).append('(');
        String comma = "";
        for (Class<?> type : method.getParameterTypes()) {
            all.append(comma).append(type);
            comma = ", ";
        }
        all.append(')');
        comma = " throws ";
        for (Class<?> type : method.getExceptionTypes()) {
            all.append(comma).append(type.getSimpleName());
            comma = ", ";
        }
        return all.toString();
    }

    private static void members() {
        Check.part("rules 1, 5 and 11, members");
        Class<?>[] inside = WineCooperative.class.getDeclaredClasses();
        Check.holds("number of classes", inside.length + 1 <= MOST_CLASSES);
        Set<String> face = new TreeSet<>();
        List<Member> own = new ArrayList<>();
        own.addAll(Arrays.asList(WineCooperative.class.getDeclaredMethods()));
        own.addAll(Arrays.asList(WineCooperative.class.getDeclaredFields()));
        own.addAll(Arrays.asList(WineCooperative.class.getDeclaredConstructors()));
        for (Member member : own) {
            int modifiers = member.getModifiers();
            Check.holds(member + " is public or private",
                    Modifier.isPublic(modifiers) || Modifier.isPrivate(modifiers) || member.isSynthetic());
            if (member instanceof Method && Modifier.isPublic(modifiers)) {
                face.add(member.getName());
            }
        }
        fields(WineCooperative.class);
        for (Class<?> type : inside) {
            Check.holds(type + " is static", Modifier.isStatic(type.getModifiers()));
            Check.holds(type + " is not public", !Modifier.isPublic(type.getModifiers()));
            Check.same("classes inside " + type, type.getDeclaredClasses().length, 0);
            for (Method method : type.getDeclaredMethods()) {
                Check.holds(method + " bears a name of its own", !face.contains(method.getName()));
                Check.holds(method + " is not public", !Modifier.isPublic(method.getModifiers()));
                parameters(method);
            }
            fields(type);
        }
        for (Method method : WineCooperative.class.getDeclaredMethods()) {
            parameters(method);
            if (Modifier.isPrivate(method.getModifiers())) {
                Check.holds(method + " bears a name of its own", !face.contains(method.getName()));
            }
        }
    }

    private static void parameters(Executable method) {
        Check.holds(method + " has few parameters", method.getParameterCount() <= MOST_PARAMETERS);
    }

    private static void fields(Class<?> type) {
        int count = 0;
        for (Field field : type.getDeclaredFields()) {
            if (Modifier.isStatic(field.getModifiers())) {
                Check.holds(field + " is final", Modifier.isFinal(field.getModifiers()));
                Check.holds(field + " is a plain constant",
                        field.getType() == int.class || field.getType() == String.class);
            } else {
                count++;
            }
        }
        Check.holds(type + " has few fields", count <= MOST_FIELDS);
    }

    private static void source() throws IOException {
        Check.part("the file");
        String text = Files.readString(SOURCE, StandardCharsets.UTF_8);
        for (int i = 0; i < text.length(); i++) {
            if (text.charAt(i) != '\n' && (text.charAt(i) < ' ' || text.charAt(i) > '~')) {
                Check.holds("plain sign at " + i, false);
            }
        }
        String code = text.replaceAll("(?s)/\\*.*?\\*/", "").replaceAll("\"[^\"\n]*\"", "\"\"");
        for (String word : new String[] {"->", "::", "@", "//", "\" +", "+ \"", "Exact", "import static"}) {
            Check.holds("no " + word, !code.contains(word));
        }
        for (String word : new String[] {"try", "catch", "finally", "synchronized", "assert", "instanceof", "protected",
            "package", "volatile", "transient", "native", "Object", "System.out", "Thread", "random", "equals",
            "hashCode", "toString", "var", "goto", "record", "enum"}) {
            Check.holds("no " + word, !Pattern.compile("\\b" + Pattern.quote(word) + "\\b").matcher(code).find());
        }
        Matcher imports = Pattern.compile("import ([\\w.]+);").matcher(code);
        while (imports.find()) {
            Check.same("import", imports.group(1), "java.util.NoSuchElementException");
        }
        methodLengths(text);
    }

    /** A method opens at some indent with a brace at the end of the line and closes at the same one. */
    private static void methodLengths(String text) {
        String[] lines = text.split("\n");
        Pattern head = Pattern.compile("^( {4}| {8})(?:private |public |static |final )*[\\w\\[\\]]+ ?\\w*\\(.*");
        for (int i = 0; i < lines.length; i++) {
            Matcher start = head.matcher(lines[i]);
            if (start.matches() && !lines[i].endsWith(";")) {
                int end = i;
                while (end < lines.length && !lines[end].equals(start.group(1) + "}")) {
                    end++;
                }
                Check.holds("short method at line " + (i + 1), end - i + 1 <= MOST_LINES);
            }
        }
    }

    /** Rule 12: a long run of the dearest calls keeps to the rows that the constructor has made. */
    private static void room() {
        Check.part("rule 12, room");
        com.sun.management.ThreadMXBean meter =
                (com.sun.management.ThreadMXBean) java.lang.management.ManagementFactory.getThreadMXBean();
        WineCooperative x = new WineCooperative();
        dearCalls(x, 400);
        long before = meter.getThreadAllocatedBytes(Thread.currentThread().getId());
        dearCalls(x, 400);
        long used = meter.getThreadAllocatedBytes(Thread.currentThread().getId()) - before;
        Check.holds("the calls make next to nothing, but " + used + " bytes", used < 20000);
    }

    private static void dearCalls(WineCooperative x, int times) {
        for (int i = 0; i < times; i++) {
            x.append(0x636f6f70, 0x65726174, 0x69766520, 0x3120313b, 0x636c6173);
            x.append(0x73657320, 0x313b2020, 0x20202020, 0x20202020, 0x20202020);
            if (x.load() != 0) {
                throw new IllegalStateException("a good text");
            }
            x.save(0);
            x.restore(0);
            x.printTanks();
            x.undo();
            x.greatestClass();
            x.payableGrowers();
        }
    }
}
