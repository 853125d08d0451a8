import java.io.IOException;
import java.lang.reflect.Field;
import java.lang.reflect.Member;
import java.lang.reflect.Method;
import java.lang.reflect.Modifier;
import java.nio.file.Files;
import java.nio.file.Path;
import java.util.ArrayList;
import java.util.Arrays;
import java.util.List;
import java.util.TreeSet;
import java.util.regex.Matcher;
import java.util.regex.Pattern;

/** The rules of LANGUAGE.md that can be read off the source and the compiled classes. */
public final class LanguageTest {
    private static int wrong = 0;

    private static void fail(String what) {
        wrong++;
        System.out.println(what);
    }

    /** The code without what it says in texts and comments. */
    private static String bare(String source) {
        return source.replaceAll("(?s)/\\*.*?\\*/", " ").replaceAll("//[^\n]*", " ")
            .replaceAll("\"[^\"\n]*\"", "\"\"").replaceAll("'[^'\n]+'", "' '");
    }

    private static void words(String code) {
        String[] never = {"throws?", "try", "catch", "finally", "synchronized", "assert", "volatile", "package", "native",
            "hashCode", "getClass", "Object", "System\\.(?!arraycopy)\\w+", "Thread", "Random", "[A-Za-z]+Exact",
            "Arrays\\.(?!fill|copyOf|copyOfRange)\\w+", "Integer\\.(valueOf|parse\\w+|toString)", "String\\.\\w+",
            "Math\\.(random|sqrt|pow|floor|ceil|round)"};
        for (String word : never) {
            refuse(code, "\\b(?:" + word + ")\\b");
        }
        // Endless loops, lambdas with a body, method references, static initialisers, texts joined by +.
        String[] signs = {"while\\s*\\(true\\)", "for\\s*\\(;;\\)", "-> \\{", "::", "static \\{", "\"\" \\+", "\\+ \"\""};
        for (String sign : signs) {
            refuse(code, sign);
        }
        Matcher imports = Pattern.compile("import ([^;]+);").matcher(code);
        while (imports.find()) {
            if (!imports.group(1).matches("java\\.util\\.(Arrays|ArrayList|List|Iterator)")) {
                fail("it imports " + imports.group(1));
            }
        }
        if (!code.chars().allMatch(c -> c < 128)) {
            fail("the source holds a sign above 127");
        }
    }

    private static void refuse(String code, String pattern) {
        Matcher found = Pattern.compile(pattern).matcher(code);
        if (found.find()) {
            fail("the source says " + found.group());
        }
    }

    /** Methods stay short: some sixty lines. */
    private static void lengths(String code) {
        Matcher method = Pattern.compile("\n( {4}| {8})(?! )([^\n;=]*)\\([^\n;]*\\) \\{\n(.*?)\n\\1\\}", Pattern.DOTALL)
            .matcher(code);
        while (method.find()) {
            if (method.group(3).split("\n").length > 60) {
                fail("long: " + method.group(2));
            }
        }
    }

    private static void face(String doc) {
        int from = doc.indexOf("```java");
        TreeSet<String> due = new TreeSet<>();
        Matcher call = Pattern.compile("public (int \\w+\\([^)]*\\));").matcher(doc.substring(from));
        while (call.find()) {
            due.add(call.group(1).replaceAll("int \\w+(?=[,)])", "int"));
        }
        TreeSet<String> is = new TreeSet<>();
        for (Method method : PreCommitHall.class.getDeclaredMethods()) {
            if (Modifier.isPublic(method.getModifiers())) {
                StringBuilder text = new StringBuilder("int " + method.getName() + "(");
                for (Class<?> type : method.getParameterTypes()) {
                    text.append(text.charAt(text.length() - 1) == '(' ? "" : ", ").append(type.getName());
                }
                is.add(text.append(")").toString());
            } else if (!Modifier.isPrivate(method.getModifiers())) {
                fail("neither public nor private: " + method);
            }
        }
        if (!due.equals(is) || due.size() != 39) {
            fail("the face is " + is + ", due is " + due);
        }
        for (Field field : PreCommitHall.class.getDeclaredFields()) {
            if (!Modifier.isPrivate(field.getModifiers()) && !field.getName().equals("NONE")) {
                fail("neither public nor private: " + field);
            }
        }
        if (!Modifier.isFinal(PreCommitHall.class.getModifiers())) {
            fail("the class isn't final");
        }
    }

    private static void classes() {
        List<Class<?>> all = new ArrayList<>(Arrays.asList(PreCommitHall.class.getDeclaredClasses()));
        TreeSet<String> names = new TreeSet<>();
        for (Method method : PreCommitHall.class.getDeclaredMethods()) {
            if (Modifier.isPublic(method.getModifiers())) {
                names.add(method.getName());
            }
        }
        if (all.size() > 13) {
            fail("there are " + (all.size() + 1) + " classes");
        }
        for (Class<?> inner : all) {
            if (!Modifier.isStatic(inner.getModifiers())) {
                fail("not static: " + inner);
            }
            for (Method method : inner.getDeclaredMethods()) {
                if (names.contains(method.getName())) {
                    fail("bears the name of a public one: " + method);
                }
                if (method.getParameterCount() > 7) {
                    fail("too many parameters: " + method);
                }
            }
        }
        all.add(PreCommitHall.class);
        for (Class<?> one : all) {
            long fields = Arrays.stream(one.getDeclaredFields()).map(Member::getModifiers)
                .filter(modifiers -> !Modifier.isStatic(modifiers)).count();
            if (fields > 24) {
                fail(fields + " fields in " + one);
            }
            for (Field field : one.getDeclaredFields()) {
                if (Modifier.isStatic(field.getModifiers()) && !Modifier.isFinal(field.getModifiers())) {
                    fail("static, not final: " + field);
                }
            }
        }
    }

    public static void main(String[] args) throws IOException {
        String code = bare(Files.readString(Path.of("src/main/java/PreCommitHall.java")));
        words(code);
        lengths(code);
        face(Files.readString(Path.of("../shared/DOC.md")));
        classes();
        System.out.println("the language: " + wrong + " rules broken");
        if (wrong != 0) {
            System.exit(1);
        }
    }
}
