import java.io.IOException;
import java.lang.reflect.Constructor;
import java.lang.reflect.Field;
import java.lang.reflect.Method;
import java.lang.reflect.Modifier;
import java.nio.file.Files;
import java.nio.file.Path;
import java.util.ArrayList;
import java.util.List;
import java.util.TreeSet;
import java.util.regex.Matcher;
import java.util.regex.Pattern;

/** The public face, and those rules of LANGUAGE.md that can be seen from outside. */
public final class FaceTest {
    private static final Path SOURCE = Path.of("src/main/java/StoneDates.java");

    public static void main(String[] args) throws IOException {
        face();
        hidden();
        words();
        Check.end("FaceTest");
    }

    private static void face() {
        TreeSet<String> got = new TreeSet<>();
        for (Method m : StoneDates.class.getDeclaredMethods()) {
            if (Modifier.isPublic(m.getModifiers())) {
                got.add(m.getReturnType() + " " + m.getName() + params(m.getParameterTypes())
                        + thrown(m.getExceptionTypes()));
            }
        }
        TreeSet<String> want = new TreeSet<>(List.of(
                "int town(int) A S", "int of(int,int) A", "int moon(int,int) A I",
                "int feed(int,int,int,int,int)", "int stone(int,int) I A S", "int many(int) I",
                "int day(int,int) I", "boolean fits(int,int) I A", "int distance(int,int,int) I A S",
                "int least()", "int wrong(int)", "int settled(int) I", "int settledDay(int,int) I",
                "int eclipse(int) A", "boolean names(int,boolean) I S", "int start(int) A S",
                "int agrees(int) A S", "int count(int)"));
        for (String each : want) {
            Check.due("face has " + each, got.contains(each), true);
        }
        for (String each : got) {
            Check.due("the document has " + each, want.contains(each), true);
        }
        Check.due("public and final", StoneDates.class.getModifiers(), Modifier.PUBLIC | Modifier.FINAL);
        Constructor<?>[] made = StoneDates.class.getDeclaredConstructors();
        Check.due("one constructor", made.length, 1);
        Check.due("it is public", made[0].getModifiers(), Modifier.PUBLIC);
        Check.due("it takes nothing", made[0].getParameterCount(), 0);
    }

    private static String params(Class<?>[] types) {
        List<String> names = new ArrayList<>();
        for (Class<?> type : types) {
            names.add(type.getName());
        }
        return "(" + String.join(",", names) + ")";
    }

    private static String thrown(Class<?>[] types) {
        StringBuilder names = new StringBuilder();
        for (Class<?> type : types) {
            names.append(" ").append(type == IllegalArgumentException.class ? "A"
                    : type == IllegalStateException.class ? "S" : "I");
        }
        return names.toString();
    }

    private static void hidden() {
        TreeSet<String> open = new TreeSet<>();
        for (Method m : StoneDates.class.getDeclaredMethods()) {
            if (Modifier.isPublic(m.getModifiers())) {
                open.add(m.getName());
            }
        }
        for (Field f : StoneDates.class.getDeclaredFields()) {
            boolean isNone = f.getName().equals("NONE");
            Check.due("field " + f.getName(), Modifier.isPublic(f.getModifiers()), isNone);
            Check.due("field " + f.getName() + " is seen", Modifier.isPrivate(f.getModifiers()), !isNone);
        }
        for (Method m : StoneDates.class.getDeclaredMethods()) {
            boolean isPublic = Modifier.isPublic(m.getModifiers());
            Check.due("method " + m.getName() + " is seen", isPublic || Modifier.isPrivate(m.getModifiers()), true);
            Check.due("hidden " + m.getName(), !isPublic && open.contains(m.getName()), false);
        }
        for (Class<?> inside : StoneDates.class.getDeclaredClasses()) {
            Check.due(inside.getName() + " is static", Modifier.isStatic(inside.getModifiers()), true);
            Check.due(inside.getName() + " is public", Modifier.isPublic(inside.getModifiers()), false);
            for (Method m : inside.getDeclaredMethods()) {
                Check.due(inside.getName() + "." + m.getName(), open.contains(m.getName()), false);
            }
        }
        Check.due("at most twelve classes", StoneDates.class.getDeclaredClasses().length <= 11, true);
    }

    private static void words() throws IOException {
        String plain = Files.readString(SOURCE).replaceAll("(?s)/\\*.*?\\*/|//[^\n]*|\"[^\"\n]*\"", "");
        String[] banned = {"->", "::", "\\bfinally\\b", "\\bsynchronized\\b", "\\bassert\\b", "\\btry\\b",
            "\\bcatch\\b", "Exact\\(", "\\bpackage\\b", "\\bSystem\\.(?!arraycopy)", "\\bdouble\\b", "\\bfloat\\b",
            "\\bObject\\b", "\\bMap\\b", "\\bvar\\b", "\\bstatic \\{", "\\bprotected\\b", "[^\\x00-\\x7f]"};
        for (String word : banned) {
            Check.due("the source has " + word, Pattern.compile(word).matcher(plain).find(), false);
        }
        Matcher imports = Pattern.compile("(?m)^import (.*);").matcher(plain);
        while (imports.find()) {
            Check.due("imports " + imports.group(1), imports.group(1).equals("java.util.Arrays"), true);
        }
    }
}
