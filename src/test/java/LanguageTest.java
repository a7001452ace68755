import java.lang.reflect.Constructor;
import java.lang.reflect.Field;
import java.lang.reflect.Method;
import java.lang.reflect.Modifier;
import java.nio.file.Files;
import java.nio.file.Path;
import java.util.Arrays;
import java.util.List;
import java.util.Set;
import java.util.TreeSet;
import java.util.regex.Matcher;
import java.util.regex.Pattern;
import java.util.stream.Collectors;

/** The face of the class is the document's and no more, and its text keeps to LANGUAGE.md. */
public final class LanguageTest {
    private static final List<String> FACE = List.of(
        "int feed(int,int,int,int,int)", "int museum(int)", "int fault()", "int count(int)",
        "int letter(int,int)", "int kind(int)", "int arc(int,int)", "int saying(int,int)", "int may(int)",
        "int add(int,int)", "int fly(int,int,int)", "int take(int,int)", "int day()", "int undo()",
        "int open(int)", "int soonest(int,int)", "int must(int)", "long ways(int,int,boolean)",
        "int turn(int,int)", "int costs(int,int,int)", "int closed()", "int odds(int,int,int,int)",
        "int see(int,int)", "void forget()", "int who(int)", "int begun(int)", "int alike(int,int)",
        "int nearest()", "int culprit(int,int)", "int season(int,int,int)", "int crimes(int)",
        "int doors(int)", "int far(int,int)", "int days(int,int)", "int mend(int,int)",
        "int shared(int,int,int)", "int about(int)", "int often(int,int)", "int cost(int)", "void image()",
        "boolean restore()");
    private static final List<String> FORBIDDEN = List.of("\\bcatch\\b", "\\btry\\b", "\\bfinally\\b", "->", "::",
        "Exact\\(", "\\bsynchronized\\b", "\\bassert\\b", "\\bprotected\\b", "\\bSystem\\.(?!arraycopy)",
        "\\bObject\\b", "\\bString\\[\\]", "\" \\+", "\\+ \"", "\\bdouble\\b", "\\bfloat\\b", "\\bnull\\b",
        "static \\{", "\\bwhile \\(true\\)", "for \\(;;", "\\bthrow (?!new (NoSuchElement|IllegalArgument)Exception\\(\")");

    // What the class needs of rule 4; another entry of that rule may be put here when it is needed.
    private static final Set<String> LIBRARY = Set.of("Integer.bitCount(", "Math.max(", "Math.min(", "Arrays.fill(",
        "System.arraycopy(");
    private static final Pattern OF_LIBRARY = Pattern.compile(
        "\\b(?:Integer|Long|Short|Byte|Character|Boolean|Math|Arrays|System|String|StringBuilder|List|ArrayList)\\.\\w+\\(?");

    private static int wrong;

    private LanguageTest() {
    }

    public static void main(String[] args) throws Exception {
        faceIsTheDocuments();
        faceIsThatWrittenThere();
        insideIsPrivate(OpenSaying.class);
        textKeepsToTheRules(Files.readString(Path.of("src/main/java/OpenSaying.java")));
        System.out.println(wrong + " rules broken");
        System.exit(wrong == 0 ? 0 : 1);
    }

    private static void need(boolean holds, String what) {
        if (!holds) {
            wrong++;
            System.out.println("not so: " + what);
        }
    }

    private static String told(Method m) {
        StringBuilder text = new StringBuilder(m.getReturnType() + " " + m.getName() + "(");
        String join = "";
        for (Class<?> c : m.getParameterTypes()) {
            text.append(join).append(c);
            join = ",";
        }
        return text.append(")").toString();
    }

    private static void faceIsTheDocuments() throws Exception {
        Class<?> c = OpenSaying.class;
        need(Modifier.isPublic(c.getModifiers()) && Modifier.isFinal(c.getModifiers()), "public and final");
        Set<String> open = new TreeSet<>();
        for (Method m : c.getDeclaredMethods()) {
            if (Modifier.isPublic(m.getModifiers())) {
                open.add(told(m));
            } else {
                need(Modifier.isPrivate(m.getModifiers()), m + " is private");
                need(!faceNames().contains(m.getName()), m + " bears no name of the face");
            }
        }
        need(open.equals(new TreeSet<>(FACE)), "the public methods are those of the document: " + open);
        for (Field f : c.getDeclaredFields()) {
            need(f.getName().equals("NONE") ? Modifier.isPublic(f.getModifiers())
                    : Modifier.isPrivate(f.getModifiers()), f + " is private");
            need(!Modifier.isStatic(f.getModifiers()) || Modifier.isFinal(f.getModifiers()), f + " is final");
        }
        need(c.getField("NONE").getInt(null) == -1, "NONE is -1");
        Constructor<?>[] made = c.getDeclaredConstructors();
        need(made.length == 1 && Modifier.isPublic(made[0].getModifiers())
                && made[0].getParameterCount() == 0, "one public constructor");
    }

    /** The same once more by the document's own lines, with what each call says that it throws. */
    private static void faceIsThatWrittenThere() throws Exception {
        Path path = Path.of("../shared/DOC.md");
        if (!Files.exists(path)) {
            return;
        }
        Set<String> written = new TreeSet<>();
        Matcher m = Pattern.compile("^    public (\\w+ \\w+\\(.*\\).*);$", Pattern.MULTILINE).matcher(Files.readString(path));
        while (m.find()) {
            written.add(m.group(1).replaceAll("(int|boolean) \\w+(?=[,)])", "$1").replace(", ", ","));
        }
        Set<String> made = new TreeSet<>();
        for (Method method : OpenSaying.class.getDeclaredMethods()) {
            if (Modifier.isPublic(method.getModifiers())) {
                String thrown = Arrays.stream(method.getExceptionTypes()).map(Class::getSimpleName)
                        .collect(Collectors.joining(","));
                made.add(told(method) + (thrown.isEmpty() ? "" : " throws " + thrown));
            }
        }
        need(made.size() == FACE.size() && made.equals(written), "the face is as written: " + written + " and not " + made);
    }

    private static Set<String> faceNames() {
        Set<String> names = new TreeSet<>();
        FACE.forEach(f -> names.add(f.replaceAll(".* |\\(.*", "")));
        return names;
    }

    private static void insideIsPrivate(Class<?> outer) {
        Set<String> names = faceNames();
        Class<?>[] inside = outer.getDeclaredClasses();
        need(inside.length <= 11, "at most twelve classes");
        for (Class<?> c : inside) {
            need(Modifier.isPrivate(c.getModifiers()) && Modifier.isStatic(c.getModifiers()), c + " is private, static");
            long fields = Arrays.stream(c.getDeclaredFields()).filter(f -> !Modifier.isStatic(f.getModifiers())).count();
            need(fields <= 20, c + " has at most twenty fields");
            for (Field f : c.getDeclaredFields()) {
                need(!Modifier.isStatic(f.getModifiers()) || Modifier.isFinal(f.getModifiers()), f + " is final");
            }
            for (Method m : c.getDeclaredMethods()) {
                need(!names.contains(m.getName()), m + " bears no name of the face");
                need(m.getParameterCount() <= 7, m + " takes at most seven parameters");
            }
        }
    }

    private static void textKeepsToTheRules(String text) {
        need(text.chars().allMatch(c -> c == 10 || c >= 32 && c < 127), "plain signs alone");
        Set<String> imports = new TreeSet<>();
        Matcher m = Pattern.compile("^import (.*);$", Pattern.MULTILINE).matcher(text);
        while (m.find()) {
            imports.add(m.group(1));
        }
        need(imports.equals(Set.of("java.util.Arrays", "java.util.NoSuchElementException")), "imports " + imports);
        String code = text.replaceAll("/\\*\\*.*?\\*/", "").replaceAll("//.*", "");
        for (String forbidden : FORBIDDEN) {
            Matcher found = Pattern.compile(forbidden).matcher(code);
            need(!found.find(), "nowhere " + forbidden);
        }
        Matcher used = OF_LIBRARY.matcher(code);
        while (used.find()) {
            need(LIBRARY.contains(used.group()), "rule 4 lists " + used.group());
        }
        int begun = 0;
        String[] lines = text.split("\n");
        for (int i = 0; i < lines.length; i++) {
            if (lines[i].matches("    (    )?(public|private|static|int|boolean|void|long).*\\{")) {
                begun = i;
            }
            if (lines[i].matches("    (    )?\\}")) {
                need(i - begun <= 60 || lines[i].equals("    }"), "a short method ends at line " + (i + 1));
            }
        }
    }
}
