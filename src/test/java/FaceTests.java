import java.io.IOException;
import java.lang.reflect.Constructor;
import java.lang.reflect.Field;
import java.lang.reflect.Method;
import java.lang.reflect.Modifier;
import java.nio.file.Files;
import java.nio.file.Path;
import java.util.Set;
import java.util.TreeSet;

/** That the class shows the document's face and no more, and keeps to what can be seen of LANGUAGE.md. */
final class FaceTests {
    private FaceTests() {
    }

    static void run(Check check, Path source, Path document) throws IOException {
        members(check, face(Files.readString(document)));
        language(check, Files.readString(source));
        table(check, Files.readString(source), Files.readString(document));
    }

    /** The methods of the document's face, without the names of what they take. */
    private static Set<String> face(String document) {
        int begin = document.indexOf("```java");
        Set<String> face = new TreeSet<>();
        for (String line : document.substring(begin, document.indexOf("}", begin)).split("\n")) {
            String plain = line.trim();
            if (plain.endsWith(";") && plain.contains("(") && !plain.contains(" WaveletStream(")) {
                face.add(plain.replaceFirst("^public ", "").replaceAll("\\bint \\w+(?=[,)])", "int").replace(";", ""));
            }
        }
        return face;
    }

    private static String text(Method m) {
        StringBuilder s = new StringBuilder(m.getReturnType().getSimpleName() + " " + m.getName() + "(");
        for (Class<?> type : m.getParameterTypes()) {
            s.append(s.charAt(s.length() - 1) == '(' ? "" : ", ").append(type.getSimpleName());
        }
        s.append(")");
        for (Class<?> type : m.getExceptionTypes()) {
            s.append(" throws ").append(type.getSimpleName());
        }
        return s.toString();
    }

    private static void members(Check check, Set<String> face) {
        check.subject("the face");
        Class<?> c = WaveletStream.class;
        check.that("public and final", Modifier.isPublic(c.getModifiers()) && Modifier.isFinal(c.getModifiers()));
        Set<String> shown = new TreeSet<>();
        Set<String> names = new TreeSet<>();
        for (Method m : c.getDeclaredMethods()) {
            if (!Modifier.isPrivate(m.getModifiers())) {
                shown.add(text(m));
                names.add(m.getName());
            }
        }
        check.that("methods " + shown + ", due are " + face, shown.equals(face) && face.size() == 14);
        for (Field f : c.getDeclaredFields()) {
            check.that("field " + f.getName(), Modifier.isPrivate(f.getModifiers()) || f.getName().equals("NONE"));
        }
        Constructor<?>[] constructors = c.getDeclaredConstructors();
        check.that("one constructor without parameters",
            constructors.length == 1 && constructors[0].getParameterCount() == 0
            && Modifier.isPublic(constructors[0].getModifiers()));
        check.that("at most twelve classes", c.getDeclaredClasses().length < 12);
        for (Class<?> inside : c.getDeclaredClasses()) {
            int m = inside.getModifiers();
            check.that(inside + " is static, not public", Modifier.isStatic(m) && !Modifier.isPublic(m)
                && !Modifier.isProtected(m));
            int fields = 0;
            for (Field f : inside.getDeclaredFields()) {
                fields += Modifier.isStatic(f.getModifiers()) ? 0 : 1;
                check.that(inside + "." + f.getName() + " is final, if static",
                    !Modifier.isStatic(f.getModifiers()) || Modifier.isFinal(f.getModifiers()));
            }
            check.that(inside + " has at most twenty fields", fields <= 20);
            for (Method inner : inside.getDeclaredMethods()) {
                check.that(inner + " bears the name of a public one", !names.contains(inner.getName()));
                check.that(inner + " has at most seven parameters", inner.getParameterCount() <= 7);
            }
        }
    }

    private static void language(Check check, String source) {
        check.subject("the language");
        String code = source.replaceAll("(?s)/\\*.*?\\*/", "").replaceAll("//[^\n]*", "");
        for (String word : new String[] {"->", "::", "package ", "synchronized", "assert ", "finally", "double ",
            "float ", "System.", "Random", "Thread", "Object", "var ", "@", "record ", "catch"}) {
            check.that("'" + word + "' stands in the code", !code.contains(word));
        }
        check.that("only java.util.Arrays is imported",
            code.replace("import java.util.Arrays;", "").indexOf("import ") < 0);
        int longest = 0;
        int begun = 0;
        String[] lines = source.split("\n");
        for (int i = 0; i < lines.length; i++) {
            if (lines[i].matches(" {4,8}[A-Za-z].*\\) (throws \\w+ )?\\{")) {
                begun = i;
            }
            if (lines[i].matches(" {4,8}\\}")) {
                longest = Math.max(longest, i - begun + 1);
                begun = i;
            }
            check.that("line " + (i + 1) + " is short", lines[i].length() <= 120);
        }
        check.that("the longest method has " + longest + " lines", longest <= 60);
    }

    /** That the program's and the reference's table of states is the document's: few runs reach its end. */
    private static void table(Check check, String source, String document) {
        check.subject("the table of states");
        String plain = document.replaceAll("\\s+", " ");
        for (String row : Reference.STATES.split(", ")) {
            check.that("'" + row + "' stands in the document", plain.contains(" " + row + ",")
                || plain.contains(" " + row + "."));
        }
        int from = plain.indexOf("5601 1 1");
        int to = plain.indexOf("5601 46 46");
        check.that("in the document's order", from >= 0 && to > from
            && plain.substring(from, to + 10).equals(Reference.STATES));
        String[] names = {"SIZES", "AFTER_LIKELY", "AFTER_OTHER"};
        for (int what = 0; what < names.length; what++) {
            String head = "int[] " + names[what] + " = {";
            int begin = source.indexOf(head) + head.length();
            String[] entries = source.substring(begin, source.indexOf("}", begin)).trim().split(",\\s*");
            check.equal("entries of " + names[what], entries.length, Reference.Learnt.TABLE.length);
            for (int i = 0; i < Math.min(entries.length, Reference.Learnt.TABLE.length); i++) {
                check.equal(names[what] + " " + i, Integer.decode(entries[i].replaceFirst("^0+(?=[1-9])", "")),
                    Reference.Learnt.TABLE[i][what]);
            }
        }
    }
}
