import java.io.IOException;
import java.lang.reflect.Constructor;
import java.lang.reflect.Field;
import java.lang.reflect.Method;
import java.lang.reflect.Modifier;
import java.nio.file.Files;
import java.nio.file.Path;
import java.util.Arrays;
import java.util.Set;
import java.util.TreeSet;
import java.util.regex.Matcher;
import java.util.regex.Pattern;

/** The public face of the document, no more; and what LANGUAGE.md forbids that can be seen in the text. */
public final class FaceTest {
    private static final String[] METHODS = {
        "boolean coin(int,int)", "boolean debt(int,int,int)", "boolean kin(int,int,int,boolean)", "boolean owner(int,int)",
        "boolean day(int)", "int feed(int,int,int,int,int)", "boolean end(int)", "int statute(int)", "int never()",
        "int cure(int)", "int fault(int)", "int act(int,int)", "int put(int,int)", "boolean clear(int)",
        "boolean honest(int,boolean)", "int lawful(int,int,int,int)", "int after(int,int)", "int hole(int,int,int,int,int)",
        "int friends(int,int,int)", "int only(int,int)", "int met(int,int,boolean)", "int gain(int,int,int,int)",
        "int stop(int,int,int)", "int past(int)", "int through(int,int)"};
    private static final String[] FORBIDDEN = {
        "throw", "try", "catch", "synchronized", "assert", "static \\{", "->", "::", "hashCode", "\\.equals", "toString",
        "Exact\\(", "package ", "Object\\b", "Random", "System\\.(?!arraycopy)", "volatile", "Thread", "protected "};

    public static void main(String[] args) throws IOException {
        Check check = new Check();
        document(check);
        face(check);
        text(check);
        check.close();
    }

    /** The names that METHODS has are the document's, with the types that it tells. */
    private static void document(Check check) throws IOException {
        String document = Files.readString(Path.of("../shared/DOC.md"));
        Set<String> told = new TreeSet<>();
        Matcher m = Pattern.compile("(?m)^    public (int|boolean) (\\w+)\\((.*)\\);$").matcher(document);
        while (m.find()) {
            String types = m.group(3).replaceAll(" \\w+(, )?", "$1").replace(" ", "");
            told.add(m.group(1) + " " + m.group(2) + "(" + types + ")");
        }
        check.due("the document's face " + told, told.equals(new TreeSet<>(Arrays.asList(METHODS))), true);
    }

    private static void face(Check check) {
        Class<?> c = LawHoles.class;
        check.due("public and final", c.getModifiers(), Modifier.PUBLIC | Modifier.FINAL);
        Set<String> want = new TreeSet<>(Arrays.asList(METHODS));
        Set<String> got = new TreeSet<>();
        Set<String> names = new TreeSet<>();
        for (Method m : c.getDeclaredMethods()) {
            if (!Modifier.isPrivate(m.getModifiers())) {
                got.add(signature(m));
                check.due(m + " is public alone", m.getModifiers(), Modifier.PUBLIC);
                names.add(m.getName());
            }
        }
        for (Method m : c.getDeclaredMethods()) {
            boolean bearsName = Modifier.isPrivate(m.getModifiers()) && names.contains(m.getName());
            check.due("private " + m.getName() + " bears a public name", bearsName, false);
        }
        check.due("methods " + got, got.equals(want), true);
        Set<String> fields = new TreeSet<>();
        for (Field f : c.getDeclaredFields()) {
            if (!Modifier.isPrivate(f.getModifiers())) {
                fields.add(Modifier.toString(f.getModifiers()) + " " + f.getType() + " " + f.getName());
            }
            check.due("static " + f.getName() + " is final",
                !Modifier.isStatic(f.getModifiers()) || Modifier.isFinal(f.getModifiers()), true);
        }
        check.due("fields " + fields, fields.equals(new TreeSet<>(
            Arrays.asList("public static final int NONE", "public static final int SPENT"))), true);
        Constructor<?>[] made = c.getDeclaredConstructors();
        check.due("one constructor", made.length, 1);
        check.due("public, without arguments", Modifier.isPublic(made[0].getModifiers()) && made[0].getParameterCount() == 0, true);
        check.due("some twelve classes", c.getDeclaredClasses().length <= 12, true);
        for (Class<?> inside : c.getDeclaredClasses()) {
            int modifiers = inside.getModifiers();
            check.due(inside + " is static", Modifier.isStatic(modifiers), true);
            check.due(inside + " is not public", Modifier.isPublic(modifiers) || Modifier.isProtected(modifiers), false);
            int own = 0;
            for (Field f : inside.getDeclaredFields()) {
                own += Modifier.isStatic(f.getModifiers()) ? 0 : 1;
            }
            check.due(inside + " has some twenty fields", own <= 20, true);
            for (Method m : inside.getDeclaredMethods()) {
                check.due(inside + "." + m.getName() + " bears a public name", names.contains(m.getName()), false);
                check.due(m + " takes at most seven", m.getParameterCount() <= 7, true);
            }
        }
    }

    private static String signature(Method m) {
        StringBuilder s = new StringBuilder(m.getReturnType() + " " + m.getName() + "(");
        for (Class<?> p : m.getParameterTypes()) {
            s.append(s.charAt(s.length() - 1) == '(' ? "" : ",").append(p);
        }
        return s.append(")").toString();
    }

    /** The text without its comments and its texts in quotes. */
    private static void text(Check check) throws IOException {
        String whole = Files.readString(Path.of("src/main/java/LawHoles.java"));
        for (int i = 0; i < whole.length(); i++) {
            char c = whole.charAt(i);
            if (c > 126 || c < ' ' && c != '\n') {
                check.due("sign " + (int) c + " at " + i, c, ' ');
            }
        }
        String text = whole.replaceAll("(?s)/\\*.*?\\*/", "").replaceAll("//.*", "").replaceAll("\"[^\"\n]*\"", "\"\"");
        for (String word : FORBIDDEN) {
            Matcher m = Pattern.compile("\\b" + word).matcher(text);
            if (word.startsWith("->") || word.startsWith("::") || word.startsWith("\\.")) {
                m = Pattern.compile(word).matcher(text);
            }
            check.due("forbidden: " + word, m.find(), false);
        }
        Matcher imports = Pattern.compile("import ([a-zA-Z.*]+);").matcher(text);
        while (imports.find()) {
            check.due(imports.group(), imports.group(1).matches("java\\.util\\.(ArrayList|Arrays|List|Iterator)"), true);
        }
        int start = 0;
        String[] lines = whole.split("\n");
        for (int i = 0; i < lines.length; i++) {
            check.due("line " + (i + 1) + " is not too long", lines[i].length() <= 130, true);
            if (lines[i].matches("( {4}| {8})\\S.*\\) \\{")) {
                start = i;
            } else if (lines[i].matches("( {4}| {8})\\}")) {
                check.due("method at line " + (start + 1) + " is short", i - start <= 60 || lines[i].startsWith("    }"), true);
            }
        }
    }
}
