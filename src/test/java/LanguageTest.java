import java.io.IOException;
import java.lang.reflect.Constructor;
import java.lang.reflect.Field;
import java.lang.reflect.Method;
import java.lang.reflect.Modifier;
import java.nio.file.Files;
import java.nio.file.Path;
import java.util.Arrays;
import java.util.Set;
import java.util.TreeSet;
import java.util.regex.Matcher;
import java.util.regex.Pattern;

/** What of LANGUAGE.md can be seen from outside and in the text: the face, the sizes, words that have no place. */
public final class LanguageTest {
    private static final String[] FACE = {
        "int feed(int, int, int, int, int)", "boolean end(int)", "int fault(int)", "int text(int)",
        "int speech(int, int) throws java.util.NoSuchElementException", "int many(int)", "int ends(int, int)",
        "int far(int, int)", "boolean limit(int)", "int kind(int, int)", "int kinds(int, int)",
        "int nearest(int, int)", "int least(int)", "long orders(int)", "int first(int, int)",
        "int sure(int, int, int)", "int length(int)", "int one(int)", "int settles(int, int)", "int next(int)",
        "int act(int)", "int play(int)", "int wrong(int)", "int rehearse(int, int)", "int soon(int)",
        "int inside(int, int)", "int tempted(int)", "boolean boys(int)", "int plot(int, int)",
        "int bars(int, int, int, int)", "int cast(int, int, int)", "int crowd(int, int)",
        "int could(int, int, int, int)", "boolean habit(int, int)", "int worth(int, int)", "int likely(int, int)",
        "int keep()", "int back()", "int count(int)"};
    private static final String[] FORBIDDEN = {
        "->", "::", "\\bcatch\\b", "\\bfinally\\b", "\\bsynchronized\\b", "\\bassert\\b", "\\bdouble\\b",
        "\\bfloat\\b", "\\bstatic\\s*\\{", "\\bObject\\b", "\\bSystem\\.(?!arraycopy)", "\\bThread\\b",
        "Exact\\(", "\\bwhile\\b", "\\bvar\\b", "\\bequals\\(", "\\bhashCode\\(", "\\btoString\\(", "@"};
    private final Check check;

    private LanguageTest(Check check) {
        this.check = check;
    }

    private static String told(Method m) {
        String params = String.join(", ", Arrays.stream(m.getParameterTypes()).map(Class::getSimpleName).toList());
        String thrown = String.join(", ", Arrays.stream(m.getExceptionTypes()).map(Class::getName).toList());
        return m.getReturnType().getSimpleName() + " " + m.getName() + "(" + params + ")"
                + (thrown.isEmpty() ? "" : " throws " + thrown);
    }

    private void face() {
        Set<String> want = new TreeSet<>(Arrays.asList(FACE));
        Set<String> got = new TreeSet<>();
        Set<String> names = new TreeSet<>();
        for (Method m : CueRolls.class.getDeclaredMethods()) {
            if (Modifier.isPrivate(m.getModifiers())) {
                continue;
            }
            check.due("rule 1: public and not static: " + m, m.getModifiers(), Modifier.PUBLIC);
            got.add(told(m));
            names.add(m.getName());
        }
        check.due("rule 1: the face, " + got, got.equals(want), true);
        check.due("rule 1: public and final", CueRolls.class.getModifiers(), Modifier.PUBLIC | Modifier.FINAL);
        Constructor<?>[] constructors = CueRolls.class.getDeclaredConstructors();
        check.due("rule 1: constructors", constructors.length, 1);
        check.due("rule 1: the constructor", constructors[0].getModifiers(), Modifier.PUBLIC);
        for (Method m : CueRolls.class.getDeclaredMethods()) {
            if (Modifier.isPrivate(m.getModifiers())) {
                check.due("rule 1: a private " + m.getName(), names.contains(m.getName()), false);
            }
        }
        for (Class<?> inside : CueRolls.class.getDeclaredClasses()) {
            check.due("rule 1: static and not public: " + inside, Modifier.isStatic(inside.getModifiers())
                    && !Modifier.isPublic(inside.getModifiers()) && !Modifier.isProtected(inside.getModifiers()), true);
            for (Method m : inside.getDeclaredMethods()) {
                check.due("rule 1: " + inside + " has " + m.getName(), names.contains(m.getName()), false);
                check.due("rule 11: parameters of " + m, m.getParameterCount() <= 7, true);
            }
            fields(inside);
        }
        fields(CueRolls.class);
        check.due("rule 11: classes", CueRolls.class.getDeclaredClasses().length <= 11, true);
    }

    private void fields(Class<?> each) {
        int own = 0;
        for (Field f : each.getDeclaredFields()) {
            boolean constant = Modifier.isStatic(f.getModifiers());
            own += constant ? 0 : 1;
            check.due("rule 5: " + f, !constant || Modifier.isFinal(f.getModifiers()), true);
            boolean known = f.getName().equals("NONE") || f.getName().equals("HIDDEN");
            if (each == CueRolls.class) {
                check.due("rule 1: " + f, Modifier.isPrivate(f.getModifiers()) || known, true);
            }
        }
        check.due("rule 11: fields of " + each, own <= 20, true);
    }

    private void text() throws IOException {
        String source = Files.readString(Path.of("src/main/java/CueRolls.java"));
        String code = source.replaceAll("(?s)/\\*.*?\\*/", "").replaceAll("//.*", "")
                .replaceAll("\"[^\"\n]*\"", "\"\"").replaceAll("'.'", "'x'");
        for (String each : FORBIDDEN) {
            Matcher m = Pattern.compile(each).matcher(code);
            check.due("the code has " + each, m.find(), false);
        }
        Matcher imports = Pattern.compile("import (.*);").matcher(code);
        while (imports.find()) {
            check.due("import " + imports.group(1), imports.group(1).equals("java.util.NoSuchElementException"), true);
        }
        check.due("no package", code.contains("package "), false);
        String[] lines = code.split("\n");
        for (int i = 0; i < lines.length; i++) {
            String indent = lines[i].replaceAll("\\S.*", "");
            if (lines[i].endsWith(") {") && (indent.length() == 4 || indent.length() == 8)) {
                int length = 1;
                while (i + length < lines.length && !lines[i + length].equals(indent + "}")) {
                    length++;
                }
                check.due("rule 11: lines of " + lines[i].trim(), length <= 60, true);
            }
        }
    }

    public static void main(String[] args) throws IOException {
        Check check = new Check("LanguageTest");
        LanguageTest test = new LanguageTest(check);
        test.face();
        test.text();
        check.close();
    }
}
