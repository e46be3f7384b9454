import java.io.IOException;
import java.lang.reflect.Constructor;
import java.lang.reflect.Field;
import java.lang.reflect.Method;
import java.lang.reflect.Modifier;
import java.nio.file.Files;
import java.nio.file.Path;
import java.util.Set;
import java.util.TreeSet;
import java.util.regex.Matcher;
import java.util.regex.Pattern;

/** The public face, and the rules of LANGUAGE.md that can be looked up. */
public final class FaceTest {
    private static final String[] METHODS = {
        "sheet 3", "lose 1", "put 4", "get 3", "copy 5", "term 2", "kind 3", "join 4", "over 3", "into 3", "turn 2",
        "power 3", "value 2", "apply 3", "ladder 3", "step 3", "at 3", "tell 3", "lowers 2", "bound 4", "binomial 1",
        "sum 3", "through 3", "difference 3", "triangle 4", "product 6", "back 4", "aRow 2", "count 1", "digest 0"};
    private static final String[] FORBIDDEN = {
        "throw", "throws", "try", "catch", "finally", "synchronized", "assert", "->", "::", "Exact", "static \\{",
        "native", "volatile", "hashCode", "toString"};
    private static final Check check = new Check();

    public static void main(String[] args) throws IOException {
        constants();
        members();
        namesInside();
        source();
        check.end("FaceTest");
    }

    private static void constants() {
        check.due("NONE", DeltaLadders.NONE, -1);
        check.due("BAD", DeltaLadders.BAD, -2);
        check.due("NOT", DeltaLadders.NOT, -3);
    }

    private static void members() {
        Class<?> face = DeltaLadders.class;
        check.due("public and final", Modifier.isPublic(face.getModifiers()) && Modifier.isFinal(face.getModifiers()));
        Set<String> seen = new TreeSet<>();
        for (Method m : face.getDeclaredMethods()) {
            if (!Modifier.isPrivate(m.getModifiers())) {
                seen.add(m.getName() + " " + m.getParameterCount());
                check.due(m + " is public and no static one",
                    Modifier.isPublic(m.getModifiers()) && !Modifier.isStatic(m.getModifiers()));
                check.due(m + " answers as told",
                    m.getReturnType() == (m.getName().equals("digest") ? long.class : int.class));
                for (Class<?> parameter : m.getParameterTypes()) {
                    check.due(m + " takes ints", parameter == int.class);
                }
            }
        }
        check.due("the methods " + seen, seen.equals(new TreeSet<>(Set.of(METHODS))));
        Set<String> fields = new TreeSet<>();
        for (Field f : face.getDeclaredFields()) {
            if (!Modifier.isPrivate(f.getModifiers())) {
                fields.add(f.getName());
            }
            check.due(f + " is final, if static", !Modifier.isStatic(f.getModifiers()) || Modifier.isFinal(f.getModifiers()));
        }
        check.due("the constants " + fields, fields.equals(new TreeSet<>(Set.of("NONE", "BAD", "NOT"))));
        Constructor<?>[] constructors = face.getDeclaredConstructors();
        check.due("one constructor", constructors.length, 1);
        check.due("without parameters", constructors[0].getParameterCount(), 0);
    }

    private static void namesInside() {
        Set<String> open = new TreeSet<>();
        for (String method : METHODS) {
            open.add(method.substring(0, method.indexOf(' ')));
        }
        for (Method m : DeltaLadders.class.getDeclaredMethods()) {
            boolean isPrivate = Modifier.isPrivate(m.getModifiers());
            check.due(m + " has a name of its own", !isPrivate || !open.contains(m.getName()));
        }
        check.due("at most twelve classes", DeltaLadders.class.getDeclaredClasses().length < 12);
        for (Class<?> nested : DeltaLadders.class.getDeclaredClasses()) {
            check.due(nested + " is static", Modifier.isStatic(nested.getModifiers()));
            check.due(nested + " is not public", !Modifier.isPublic(nested.getModifiers()));
            for (Method m : nested.getDeclaredMethods()) {
                check.due(m + " has a name of its own", !open.contains(m.getName()));
                check.due(m + " has few parameters", m.getParameterCount() <= 7);
            }
            check.due(nested + " has few fields", nested.getDeclaredFields().length <= 20);
        }
    }

    private static void source() throws IOException {
        String text = Files.readString(Path.of("src/main/java/DeltaLadders.java"));
        String code = text.replaceAll("(?s)/\\*.*?\\*/", "").replaceAll("//[^\n]*", "");
        for (String word : FORBIDDEN) {
            boolean bare = word.matches("[a-z]+");
            Matcher found = Pattern.compile(bare ? "\\b" + word + "\\b" : word).matcher(code);
            check.due("no " + word, !found.find());
        }
        Matcher imports = Pattern.compile("(?m)^import (.*);$").matcher(code);
        while (imports.find()) {
            check.due("import of " + imports.group(1), imports.group(1).equals("java.util.Arrays"));
        }
        check.due("no package", !code.contains("package "));
        check.due("only characters that a text may hold", text.chars().allMatch(c -> c < 128));
    }
}
