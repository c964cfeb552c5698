import java.io.IOException;
import java.lang.reflect.Constructor;
import java.lang.reflect.Field;
import java.lang.reflect.Method;
import java.lang.reflect.Modifier;
import java.nio.file.Files;
import java.nio.file.Path;
import java.util.Arrays;
import java.util.List;
import java.util.TreeSet;
import java.util.regex.Matcher;
import java.util.regex.Pattern;

/** The class's face, and the rules of LANGUAGE.md that can be seen in the compiled class or in the text. */
public final class FaceTest {
    static int wrong = 0;

    static void check(boolean right, String what) {
        if (!right) {
            wrong++;
            System.out.println("not so: " + what);
        }
    }

    public static void main(String[] args) throws IOException {
        checkFace();
        checkInside();
        checkText();
        System.out.println(wrong == 0 ? "the face and the language are as due" : wrong + " things are not as due");
        if (wrong != 0) {
            System.exit(1);
        }
    }

    static String signature(Method m) {
        StringBuilder s = new StringBuilder(m.getReturnType() + " " + m.getName());
        for (Class<?> p : m.getParameterTypes()) s.append(' ').append(p);
        return s.toString();
    }

    static void checkFace() {
        String[] ints = {"row 2", "lay 3", "at 2", "tear 1", "copy 5", "mean 1", "text 2", "put 3", "fault 1", "toy 1",
            "bead 2", "cell 2", "mark 2", "turn 1", "exchange 2", "undo 1", "keep 1", "on 1", "shows 4", "run 2",
            "rounds 1", "fewest 3", "picture 2", "which 1", "kinds 2", "colours 2", "next 2", "duel 1", "odds 4",
            "mid 3", "lots 2", "asked 0", "count 1", "finding 0", "findings 1"};
        TreeSet<String> due = new TreeSet<>(List.of("long upper", "long lower", "long digest"));
        for (String s : ints) {
            String[] part = s.split(" ");
            due.add("int " + part[0] + " int".repeat(Integer.parseInt(part[1])));
        }
        TreeSet<String> seen = new TreeSet<>();
        TreeSet<String> publics = new TreeSet<>();
        for (Method m : CrossedRings.class.getDeclaredMethods()) {
            if (Modifier.isPublic(m.getModifiers())) {
                seen.add(signature(m));
                publics.add(m.getName());
            } else {
                check(Modifier.isPrivate(m.getModifiers()), m + " is private");
            }
        }
        check(seen.equals(due), "the public methods are those of the document: " + seen);
        for (Method m : CrossedRings.class.getDeclaredMethods()) {
            check(Modifier.isPublic(m.getModifiers()) || !publics.contains(m.getName()), m + " has a name of its own");
        }
        check(Modifier.isFinal(CrossedRings.class.getModifiers()), "the class is final");
        Constructor<?>[] made = CrossedRings.class.getDeclaredConstructors();
        check(made.length == 1 && made[0].getParameterCount() == 0 && Modifier.isPublic(made[0].getModifiers()), "one constructor");
        List<String> constants = List.of("BAD", "FULL", "FINDING", "STATE", "SPENT", "NONE");
        for (Field f : CrossedRings.class.getDeclaredFields()) {
            check(Modifier.isPublic(f.getModifiers()) == constants.contains(f.getName()), f + " is as visible as due");
            check(Modifier.isPublic(f.getModifiers()) || Modifier.isPrivate(f.getModifiers()), f + " is private or public");
        }
        int[] values = {CrossedRings.BAD, CrossedRings.FULL, CrossedRings.FINDING, CrossedRings.STATE, CrossedRings.SPENT, CrossedRings.NONE};
        check(Arrays.equals(values, new int[] {-1, -2, -3, -4, -6, -9}), "the constants' values");
    }

    static void checkInside() {
        for (Class<?> inside : CrossedRings.class.getDeclaredClasses()) {
            check(Modifier.isStatic(inside.getModifiers()), inside + " is static");
            checkSizes(inside);
        }
        checkSizes(CrossedRings.class);
    }

    static void checkSizes(Class<?> c) {
        int fields = 0;
        for (Field f : c.getDeclaredFields()) {
            if (Modifier.isStatic(f.getModifiers())) {
                check(Modifier.isFinal(f.getModifiers()), f + " is final");
            } else {
                fields++;
            }
        }
        check(fields <= 20, c + " has few fields");
        for (Method m : c.getDeclaredMethods()) check(m.getParameterCount() <= 7, m + " takes few parameters");
    }

    static void checkText() throws IOException {
        String text = Files.readString(Path.of("src/main/java/CrossedRings.java"));
        String code = text.replaceAll("(?s)/\\*.*?\\*/", "").replaceAll("//[^\n]*", "");
        for (String word : List.of("throw", "throws", "try", "catch", "synchronized", "assert", "package", "protected")) {
            check(!Pattern.compile("\\b" + word + "\\b").matcher(code).find(), "no " + word);
        }
        for (String sign : List.of("->", "::", "Exact", "@", "\"")) check(!code.contains(sign), "no " + sign);
        Matcher imports = Pattern.compile("import ([^;]*);").matcher(code);
        while (imports.find()) check(imports.group(1).equals("java.util.Arrays"), "import of " + imports.group(1));
        int length = 0;
        for (String line : code.split("\n")) {
            length = line.matches("    \\S.*\\{|        \\S.*\\{") ? 0 : length + 1;
            check(length <= 60, "methods are short: " + line);
        }
        check(text.chars().allMatch(c -> c < 128), "plain signs");
    }
}
