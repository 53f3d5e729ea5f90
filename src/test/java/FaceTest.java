import java.io.IOException;
import java.lang.reflect.Constructor;
import java.lang.reflect.Field;
import java.lang.reflect.Method;
import java.lang.reflect.Modifier;
import java.nio.file.Files;
import java.nio.file.Path;
import java.util.Arrays;
import java.util.List;
import java.util.TreeSet;
import java.util.regex.Matcher;
import java.util.regex.Pattern;

/** The public face, and what of LANGUAGE.md can be seen without understanding the program. */
final class FaceTest {
    private static final Check CHECK = new Check("FaceTest");

    private static final String[] FACE = {
        "int feed(int)", "int farm()", "int nest(int,int)", "int set(int,int)", "int look(int)", "int night()",
        "int tonight(int)", "long likely(int,int)", "int plan(int,int)", "int each(int,int)", "int shut()",
        "int lead(int)", "int row(int)", "int ways()", "int soon()", "int settle(int)", "int without(int)",
        "int put(int,int,int)", "int been(int)", "int judge()", "int seeds(int,int)", "int clear()", "int image()",
        "int restore()", "int count(int)"};

    private static final String[] FORBIDDEN_WORDS = {
        "throw", "throws", "try", "catch", "finally", "synchronized", "assert", "import", "package", "transient",
        "volatile", "native", "strictfp", "Object", "String", "System.out", "equals", "hashCode", "toString"};

    public static void main(String[] args) throws IOException {
        face();
        members();
        source(Files.readString(Path.of(args.length > 0 ? args[0] : "src/main/java/NobodyLookedYesterday.java")));
        CHECK.finish();
    }

    private static void face() {
        TreeSet<String> got = new TreeSet<>();
        for (Method m : NobodyLookedYesterday.class.getDeclaredMethods()) {
            if (!Modifier.isPrivate(m.getModifiers())) {
                CHECK.due("public " + m.getName(), m.getModifiers(), Modifier.PUBLIC);
                String told = Arrays.toString(m.getParameterTypes()).replaceAll("[\\[\\] ]", "");
                got.add(m.getReturnType() + " " + m.getName() + "(" + told + ")");
            }
        }
        TreeSet<String> want = new TreeSet<>(List.of(FACE));
        yes("the face is " + got, got.equals(want));
        Constructor<?>[] all = NobodyLookedYesterday.class.getDeclaredConstructors();
        CHECK.due("constructors", all.length, 1);
        CHECK.due("the constructor's parameters", all[0].getParameterCount(), 0);
        CHECK.due("it is public", all[0].getModifiers(), Modifier.PUBLIC);
        CHECK.due("the class", NobodyLookedYesterday.class.getModifiers(), Modifier.PUBLIC | Modifier.FINAL);
    }

    private static void members() {
        for (Field f : NobodyLookedYesterday.class.getDeclaredFields()) {
            yes(f.getName() + " is private", Modifier.isPrivate(f.getModifiers()));
        }
        for (Class<?> inside : NobodyLookedYesterday.class.getDeclaredClasses()) {
            yes(inside + " is static", Modifier.isStatic(inside.getModifiers()));
            for (Method m : inside.getDeclaredMethods()) {
                yes(m + " has no name of the face", Arrays.stream(FACE).noneMatch(s -> s.contains(" " + m.getName() + "(")));
            }
            for (Field f : inside.getDeclaredFields()) {
                yes(f + " is no static state", !Modifier.isStatic(f.getModifiers()));
            }
        }
        for (Field f : NobodyLookedYesterday.class.getDeclaredFields()) {
            yes(f + " is no static state",
                !Modifier.isStatic(f.getModifiers()) || Modifier.isFinal(f.getModifiers()));
        }
    }

    private static void source(String text) {
        String bare = text.replaceAll("(?s)/\\*.*?\\*/", "").replaceAll("//[^\n]*", "");
        yes("signs 1 to 127", text.chars().allMatch(c -> c >= 1 && c <= 127));
        for (String word : FORBIDDEN_WORDS) {
            yes("the word " + word, !Pattern.compile("\\b" + Pattern.quote(word) + "\\b").matcher(bare).find());
        }
        yes("no lambda", !bare.contains("->"));
        yes("no method reference", !bare.contains("::"));
        yes("no static block", !Pattern.compile("static\\s*\\{").matcher(bare).find());
        Matcher method = Pattern.compile("(?m)^( +)[a-zA-Z][^;=\n]*\\) \\{\n(?s:.*?)^\\1\\}").matcher(bare);
        int methods = 0;
        while (method.find()) {
            methods++;
            yes("short: " + method.group().lines().findFirst().orElse(""), method.group().lines().count() <= 60);
        }
        yes("methods were found: " + methods, methods >= 50);
    }

    private static void yes(String what, boolean so) {
        CHECK.due(what, so ? 1 : 0, 1);
    }
}
