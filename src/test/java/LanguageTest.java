import java.io.IOException;
import java.lang.reflect.Field;
import java.lang.reflect.Member;
import java.lang.reflect.Method;
import java.lang.reflect.Modifier;
import java.nio.file.Files;
import java.nio.file.Path;
import java.util.ArrayList;
import java.util.Arrays;
import java.util.List;
import java.util.TreeSet;
import java.util.regex.Matcher;
import java.util.regex.Pattern;

/** The rules of LANGUAGE.md that can be read off the source and the compiled classes. */
public final class LanguageTest {
    private static int wrong = 0;

    private static void fail(String what) {
        wrong++;
        System.out.println(what);
    }

    private static String bare(String source) {
        return source.replaceAll("(?s)/\\*.*?\\*/", " ").replaceAll("//[^\n]*", " ")
            .replaceAll("\"[^\"\n]*\"", "\"\"").replaceAll("'[^'\n]+'", "' '");
    }

    private static void words(String code) {
        String[] never = {"throw", "throws", "try", "catch", "finally", "synchronized", "assert", "volatile", "package",
            "native", "instanceof", "Object", "Integer\\.valueOf", "hashCode", "toString", "equals", "System\\.out",
            "System\\.exit", "System\\.nanoTime", "System\\.currentTimeMillis", "Thread", "Random", "float", "double",
            "var", "yield", "while\\s*\\(true\\)", "for\\s*\\(;;\\)", "[A-Za-z]+Exact", "Arrays\\.(?!fill|copyOf)\\w+",
            "Integer\\.(?!bitCount)\\w+", "Math\\.(?!min|max|floorMod)\\w+"};
        for (String word : never) {
            Matcher found = Pattern.compile("\\b" + word + "\\b").matcher(code);
            if (found.find()) {
                fail("the source says " + found.group());
            }
        }
        for (String sign : new String[] {"->", "::", "static {", "@", "\"\" +", "+ \"\""}) {
            if (code.contains(sign)) {
                fail("the source says " + sign);
            }
        }
        Matcher imports = Pattern.compile("import ([^;]+);").matcher(code);
        while (imports.find()) {
            if (!imports.group(1).equals("java.util.Arrays")) {
                fail("it imports " + imports.group(1));
            }
        }
        if (!code.chars().allMatch(c -> c < 128)) {
            fail("the source holds a sign above 127");
        }
    }

    /** Objects are made in constructors alone, so that the room stays as it is whatever is called. */
    private static void makes(String code) {
        Matcher method = Pattern.compile("\n( {4}| {8})(?! )([^\n;=]*)\\([^\n;]*\\) \\{\n(.*?)\n\\1\\}", Pattern.DOTALL)
            .matcher(code);
        int seen = 0;
        while (method.find()) {
            seen++;
            boolean constructor = method.group(2).trim().matches("(public )?[A-Z]\\w*");
            if (!constructor && method.group(3).matches("(?s).*\\bnew\\b.*")) {
                fail("an object is made in " + method.group(2));
            }
            if (method.group(3).split("\n").length > 60) {
                fail("long: " + method.group(2));
            }
        }
        if (seen < 100) {
            fail("only " + seen + " methods were looked at");
        }
    }

    private static void face(String doc) {
        int from = doc.indexOf("```java");
        TreeSet<String> due = new TreeSet<>();
        Matcher call = Pattern.compile("public (int \\w+\\([^)]*\\));").matcher(doc.substring(from));
        while (call.find()) {
            due.add(call.group(1).replaceAll("int \\w+(?=[,)])", "int"));
        }
        TreeSet<String> is = new TreeSet<>();
        for (Method method : PreCommitHall.class.getDeclaredMethods()) {
            if (Modifier.isPublic(method.getModifiers())) {
                StringBuilder text = new StringBuilder("int " + method.getName() + "(");
                for (Class<?> type : method.getParameterTypes()) {
                    text.append(text.charAt(text.length() - 1) == '(' ? "" : ", ").append(type.getName());
                }
                is.add(text.append(")").toString());
            } else if (!Modifier.isPrivate(method.getModifiers())) {
                fail("neither public nor private: " + method);
            }
        }
        if (!due.equals(is) || due.size() != 39) {
            fail("the face is " + is + ", due is " + due);
        }
        for (Field field : PreCommitHall.class.getDeclaredFields()) {
            if (!Modifier.isPrivate(field.getModifiers()) && !field.getName().equals("NONE")) {
                fail("neither public nor private: " + field);
            }
        }
        if (!Modifier.isFinal(PreCommitHall.class.getModifiers())) {
            fail("the class isn't final");
        }
    }

    private static void classes() {
        List<Class<?>> all = new ArrayList<>(Arrays.asList(PreCommitHall.class.getDeclaredClasses()));
        TreeSet<String> names = new TreeSet<>();
        for (Method method : PreCommitHall.class.getDeclaredMethods()) {
            if (Modifier.isPublic(method.getModifiers())) {
                names.add(method.getName());
            }
        }
        if (all.size() > 11) {
            fail("there are " + (all.size() + 1) + " classes");
        }
        for (Class<?> inner : all) {
            if (!Modifier.isStatic(inner.getModifiers())) {
                fail("not static: " + inner);
            }
            for (Method method : inner.getDeclaredMethods()) {
                if (names.contains(method.getName())) {
                    fail("bears the name of a public one: " + method);
                }
                if (method.getParameterCount() > 7) {
                    fail("too many parameters: " + method);
                }
            }
        }
        all.add(PreCommitHall.class);
        for (Class<?> one : all) {
            long fields = Arrays.stream(one.getDeclaredFields()).map(Member::getModifiers)
                .filter(modifiers -> !Modifier.isStatic(modifiers)).count();
            if (fields > 20) {
                fail(fields + " fields in " + one);
            }
            for (Field field : one.getDeclaredFields()) {
                if (Modifier.isStatic(field.getModifiers()) && !Modifier.isFinal(field.getModifiers())) {
                    fail("static, not final: " + field);
                }
            }
        }
    }

    public static void main(String[] args) throws IOException {
        String code = bare(Files.readString(Path.of("src/main/java/PreCommitHall.java")));
        words(code);
        makes(code);
        face(Files.readString(Path.of("../shared/DOC.md")));
        classes();
        System.out.println("the language: " + wrong + " rules broken");
        if (wrong != 0) {
            System.exit(1);
        }
    }
}
