import java.io.IOException;
import java.lang.reflect.Field;
import java.lang.reflect.Method;
import java.lang.reflect.Modifier;
import java.nio.file.Files;
import java.nio.file.Path;
import java.util.ArrayList;
import java.util.List;
import java.util.regex.Matcher;
import java.util.regex.Pattern;

/** Looks in the source, and in what is compiled of it, for words, forms and sizes that LANGUAGE.md does not leave. */
public final class LanguageTest {
    private static final String[] FORBIDDEN = {
        "\\b(throw|throws|try|catch|finally|synchronized|assert|native|volatile|transient|protected|var)\\b",
        "->", "::", "\\b(equals|hashCode|toString)\\s*\\(", "@\\w+", "\\b(Object|Class|Thread|Random|Runtime|Optional|Stream)\\b",
        "\\bnew\\s+\\w+(<\\w*>)?\\s*\\([^)]*\\)\\s*\\{", "\\w+Exact\\b", "\\bSystem\\.(?!arraycopy\\b)", "\\bArrays\\.(?!copyOf\\b|copyOfRange\\b|fill\\b)",
        "\\bstatic\\s*\\{", "[^\\x00-\\x7f]", "\"\\s*\\+|\\+\\s*\""
    };
    private static final int MOST_CLASSES = 12;
    private static final int MOST_FIELDS = 20;
    private static final int MOST_PARAMETERS = 7;
    private static final Pattern METHOD = Pattern.compile("^ {4,8}(?:(?:public|private|static|final|abstract) )*[\\w\\[\\]]+ ([a-z]\\w*)\\([^;]*\\) \\{$");
    private static final List<String> FACE = List.of("addRack", "open", "age", "set", "take", "claim", "giveOut", "move", "moveAll", "shorten",
        "pass", "type", "clearText", "claimAll", "undo", "keep", "restore", "rack", "hook", "tag", "tagOf", "guest", "next", "due",
        "event", "count");

    private static final Expect e = new Expect();

    public static void main(String[] args) throws IOException {
        String source = Files.readString(Path.of("src/main/java/YearTags.java"));
        String code = source.replaceAll("(?s)/\\*.*?\\*/", "").replaceAll("//[^\n]*", "");
        e.part("forms");
        for (String forbidden : FORBIDDEN) {
            Matcher m = Pattern.compile(forbidden).matcher(code);
            e.due(forbidden + (m.find() ? " at " + m.group() : ""), 0, m.reset().find() ? 1 : 0);
        }
        e.part("imports and names");
        Matcher imports = Pattern.compile("import ([\\w.]+);").matcher(code);
        while (imports.find()) {
            e.that(imports.group(1), imports.group(1).matches("java\\.util\\.(Arrays|ArrayList|List|Iterator)"));
        }
        e.that("no package line", !code.contains("package "));
        e.that("classes inside are static", !Pattern.compile("(?m)^ {4}private (?!static)[\\w ]*class ").matcher(code).find());
        methods(code.split("\n"));
        members();
        classes();
        e.end();
    }

    /** Methods stay short, and only those of the face bear its names. */
    private static void methods(String[] lines) {
        int start = 0;
        for (int i = 0; i < lines.length; i++) {
            Matcher m = METHOD.matcher(lines[i]);
            if (m.matches()) {
                start = i;
                boolean open = lines[i].startsWith("    public ");
                e.due(m.group(1) + " bears a name of the face", open ? 1 : 0, FACE.contains(m.group(1)) ? 1 : 0);
            }
            if (lines[i].matches(" {4,8}\\}")) {
                e.that("the method that begins in line " + start + " has at most 60 lines", i - start <= 60 || lines[i].equals("    }"));
            }
        }
    }

    private static void members() {
        e.part("members");
        for (Method method : YearTags.class.getDeclaredMethods()) {
            boolean isPublic = Modifier.isPublic(method.getModifiers());
            boolean isPrivate = Modifier.isPrivate(method.getModifiers());
            e.that(method + " is public or private", isPublic || isPrivate);
            e.due(method + " is of the face", isPublic ? 1 : 0, FACE.contains(method.getName()) ? 1 : 0);
        }
        for (Field field : YearTags.class.getDeclaredFields()) {
            int m = field.getModifiers();
            e.that(field + " is a public constant or private", Modifier.isPrivate(m)
                || Modifier.isPublic(m) && Modifier.isStatic(m) && Modifier.isFinal(m));
        }
        e.due("constructors", 1, YearTags.class.getConstructors().length);
        e.that("the class is final", Modifier.isFinal(YearTags.class.getModifiers()));
    }

    private static void classes() {
        List<Class<?>> all = new ArrayList<>(List.of(YearTags.class));
        for (int i = 0; i < all.size() && i < 100; i++) {
            all.addAll(List.of(all.get(i).getDeclaredClasses()));
        }
        e.part("classes");
        e.that("at most " + MOST_CLASSES + " classes", all.size() <= MOST_CLASSES);
        for (Class<?> one : all) {
            int m = one.getModifiers();
            e.that(one + " is static, and neither public nor protected",
                one == YearTags.class || Modifier.isStatic(m) && !Modifier.isPublic(m) && !Modifier.isProtected(m));
            fields(one);
            for (Method method : one.getDeclaredMethods()) {
                e.that(method + " takes few parameters", method.getParameterCount() <= MOST_PARAMETERS);
            }
        }
    }

    private static void fields(Class<?> of) {
        int held = 0;
        for (Field field : of.getDeclaredFields()) {
            boolean isConstant = Modifier.isStatic(field.getModifiers());
            held += isConstant ? 0 : 1;
            e.that(field + ", if static, is final", !isConstant || Modifier.isFinal(field.getModifiers()));
            e.that(field + " is of a type that is left", isConstant ? isTypeOfConstant(field.getType()) : isTypeOfField(field.getType()));
        }
        e.that(of + " has at most " + MOST_FIELDS + " fields", held <= MOST_FIELDS);
    }

    private static boolean isTypeOfConstant(Class<?> type) {
        return type.isEnum() || type.isArray() && type.getComponentType().isEnum() || List.of(int.class, long.class, boolean.class, char.class, String.class, int[].class, long[].class, char[].class,
            byte[].class).contains(type);
    }

    /** Object is what is compiled of a field of a generic class; the source itself may not bear the word. */
    private static boolean isTypeOfField(Class<?> type) {
        boolean isRow = type.isArray();
        Class<?> inside = isRow ? type.getComponentType() : type;
        boolean isTable = inside.isArray() && inside.getComponentType().isPrimitive();
        return inside.isPrimitive() || isTable || inside.getNestHost() == YearTags.class
            || !isRow && List.of(Object.class, String.class, StringBuilder.class, ArrayList.class, List.class).contains(inside);
    }
}
