import java.lang.reflect.Constructor;
import java.lang.reflect.Field;
import java.lang.reflect.Method;
import java.lang.reflect.Modifier;
import java.nio.file.Files;
import java.nio.file.Path;
import java.util.ArrayList;
import java.util.List;
import java.util.Set;
import java.util.TreeSet;
import java.util.regex.Matcher;
import java.util.regex.Pattern;

/** The document's public face, and those rules of LANGUAGE.md that can be seen from outside. */
public final class FaceTest {
    private static final String[] FACE = {
        "int post()", "boolean road(int,int,int)", "boolean cut(int,int)",
        "int feed(int,int,int,int,int)", "int roads(int)", "boolean reach(int,int)",
        "boolean price(int,int)", "boolean chance(int,int)", "boolean rule(int,int)",
        "int may(int,boolean)", "void want(boolean)", "int way(int,int)", "int of(int,int)",
        "int answer(int,int)", "int parts(int,int,int)", "int clash(int)", "int twins(int)",
        "int least()", "int every()", "int cheapest()", "int set()", "int shown()", "int pair(int)",
        "int greedy()", "int word(int,int)", "int clear()", "int fits()", "int where(int)",
        "int against(int)", "int worst(int)", "int next(int)", "int mean(int)", "int seek(int)",
        "int tree()", "int undo(int)", "int about(int)"};
    private static final String[] WORDS_RULED_OUT = {
        "throw", "throws", "try", "catch", "finally", "synchronized", "assert", "->", "::",
        "package", "protected", "Exact", "hashCode", "toString", "System.out"};

    private static final List<String> faults = new ArrayList<>();

    private static void check(boolean good, String fault) {
        if (!good) {
            faults.add(fault);
        }
    }

    private static String told(Method m) {
        StringBuilder text = new StringBuilder(m.getReturnType().getName());
        text.append(' ').append(m.getName()).append('(');
        for (Class<?> type : m.getParameterTypes()) {
            text.append(text.charAt(text.length() - 1) == '(' ? "" : ",").append(type.getName());
        }
        return text.append(')').toString();
    }

    private static Set<String> checkFace() throws ReflectiveOperationException {
        Set<String> names = new TreeSet<>();
        Set<String> due = new TreeSet<>(List.of(FACE));
        Set<String> there = new TreeSet<>();
        for (Method m : WayMarks.class.getDeclaredMethods()) {
            if (Modifier.isPrivate(m.getModifiers())) {
                continue;
            }
            check(Modifier.isPublic(m.getModifiers()), m.getName() + " is neither public nor private");
            there.add(told(m));
            names.add(m.getName());
        }
        check(there.equals(due), "the methods are " + there);
        check(Modifier.isFinal(WayMarks.class.getModifiers()), "the class is not final");
        Constructor<?>[] made = WayMarks.class.getDeclaredConstructors();
        check(made.length == 1 && Modifier.isPublic(made[0].getModifiers())
            && made[0].getParameterCount() == 0, "the constructor is another");
        for (Field f : WayMarks.class.getDeclaredFields()) {
            boolean isPrivate = Modifier.isPrivate(f.getModifiers());
            check(isPrivate || f.getName().equals("NONE"), f.getName() + " is not private");
        }
        checkNone();
        return names;
    }

    /** By reflection, since the compiler would put the constant's own number here. */
    private static void checkNone() throws ReflectiveOperationException {
        Field none = WayMarks.class.getField("NONE");
        int kinds = Modifier.PUBLIC | Modifier.STATIC | Modifier.FINAL;
        check(none.getType() == int.class && none.getModifiers() == kinds && none.getInt(null) == -1,
            "NONE is another");
    }

    private static void checkClass(Class<?> c, Set<String> publicNames) {
        int fields = 0;
        for (Field f : c.getDeclaredFields()) {
            boolean isStatic = Modifier.isStatic(f.getModifiers());
            check(!isStatic || Modifier.isFinal(f.getModifiers()), f + " is not final");
            fields += isStatic ? 0 : 1;
        }
        check(fields <= 20, c + " has " + fields + " fields");
        for (Method m : c.getDeclaredMethods()) {
            check(m.getParameterCount() <= 7, m + " takes too many");
            check(Modifier.isPublic(m.getModifiers()) || !publicNames.contains(m.getName()),
                m + " bears the name of a public one");
        }
    }

    /** A method begins with its head and ends with the bracket that stands as far in. */
    private static void checkLengths(String source) {
        String[] lines = source.split("\n");
        Pattern head = Pattern.compile("( {4}| {8})(public|private) [^=;]*\\) \\{");
        int methods = 0;
        for (int i = 0; i < lines.length; i++) {
            Matcher found = head.matcher(lines[i]);
            if (found.matches()) {
                int end = i;
                while (end < lines.length && !lines[end].equals(found.group(1) + "}")) {
                    end++;
                }
                methods++;
                check(end - i < 60, lines[i].trim() + " has " + (end - i + 1) + " lines");
            }
        }
        check(methods > 36, "only " + methods + " methods were found");
    }

    private static void checkSource() throws java.io.IOException {
        String source = Files.readString(Path.of("src/main/java/WayMarks.java"));
        String code = source.replaceAll("(?s)/\\*.*?\\*/", "").replaceAll("//[^\n]*", "");
        for (String word : WORDS_RULED_OUT) {
            String edge = Character.isLetter(word.charAt(0)) ? "\\b" : "";
            Matcher found = Pattern.compile(edge + Pattern.quote(word) + edge).matcher(code);
            check(!found.find(), "the code has the word " + word);
        }
        Matcher imports = Pattern.compile("import ([^;]*);").matcher(code);
        while (imports.find()) {
            check(imports.group(1).matches("java\\.util\\.(Arrays|ArrayList|List|Iterator)"),
                "the code imports " + imports.group(1));
        }
        checkLengths(source);
        check(source.chars().allMatch(sign -> sign < 128), "the source has signs beyond 127");
    }

    public static void main(String[] args)
            throws java.io.IOException, ReflectiveOperationException {
        Set<String> publicNames = checkFace();
        checkClass(WayMarks.class, publicNames);
        Class<?>[] inside = WayMarks.class.getDeclaredClasses();
        check(inside.length < 12, "there are " + inside.length + " classes inside");
        for (Class<?> c : inside) {
            check(Modifier.isStatic(c.getModifiers()), c + " is not static");
            checkClass(c, publicNames);
        }
        checkSource();
        for (String fault : faults) {
            System.out.println(fault);
        }
        System.out.println(faults.isEmpty() ? "the face is as due" : faults.size() + " faults");
        if (!faults.isEmpty()) {
            System.exit(1);
        }
    }
}
