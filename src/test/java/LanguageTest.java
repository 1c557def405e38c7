import java.io.IOException;
import java.nio.file.Files;
import java.nio.file.Path;
import java.util.regex.Matcher;
import java.util.regex.Pattern;

/** Looks in the source for words and forms that LANGUAGE.md does not leave. */
public final class LanguageTest {
    private static final String[] FORBIDDEN = {
        "\\b(throw|throws|try|catch|finally|synchronized|assert|native|volatile|transient|protected|var)\\b",
        "->", "::", "\\b(equals|hashCode|toString)\\s*\\(", "@\\w+", "\\b(Object|Class|Thread|Random|Runtime|Optional|Stream)\\b",
        "\\bnew\\s+\\w+(<\\w*>)?\\s*\\([^)]*\\)\\s*\\{", "\\w+Exact\\b", "\\bSystem\\.(?!arraycopy\\b)", "\\bArrays\\.(?!copyOf\\b|copyOfRange\\b|fill\\b)",
        "\\bstatic\\s*\\{", "[^\\x00-\\x7f]"
    };
    private static final Pattern METHOD = Pattern.compile("^ {4,8}(?:(?:public|private|static|final|abstract) )*[\\w\\[\\]]+ ([a-z]\\w*)\\([^;]*\\) \\{$");
    private static final String[] FACE = {"addRack", "open", "age", "set", "take", "claim", "giveOut", "move", "moveAll", "shorten",
        "pass", "type", "clearText", "claimAll", "undo", "keep", "restore", "rack", "hook", "tag", "tagOf", "guest", "next", "due",
        "event", "count"};

    private static final Expect e = new Expect();

    public static void main(String[] args) throws IOException {
        String source = Files.readString(Path.of("src/main/java/YearTags.java"));
        String code = source.replaceAll("(?s)/\\*.*?\\*/", "").replaceAll("//[^\n]*", "");
        e.part("forms");
        for (String forbidden : FORBIDDEN) {
            Matcher m = Pattern.compile(forbidden).matcher(code);
            e.due(forbidden + (m.find() ? " at " + m.group() : ""), 0, m.reset().find() ? 1 : 0);
        }
        e.part("imports and names");
        Matcher imports = Pattern.compile("import ([\\w.]+);").matcher(code);
        while (imports.find()) {
            e.that(imports.group(1), imports.group(1).matches("java\\.util\\.(Arrays|ArrayList|List|Iterator)"));
        }
        e.that("no package line", !code.contains("package "));
        e.that("classes inside are static", !Pattern.compile("(?m)^ {4}private (?!static)[\\w ]*class ").matcher(code).find());
        methods(code.split("\n"));
        members();
        e.end();
    }

    /** Methods stay short, and only those of the face bear its names. */
    private static void methods(String[] lines) {
        int start = 0;
        for (int i = 0; i < lines.length; i++) {
            Matcher m = METHOD.matcher(lines[i]);
            if (m.matches()) {
                start = i;
                boolean open = lines[i].startsWith("    public ");
                e.due(m.group(1) + " bears a name of the face", open ? 1 : 0, java.util.List.of(FACE).contains(m.group(1)) ? 1 : 0);
            }
            if (lines[i].matches(" {4,8}\\}")) {
                e.that("the method that begins in line " + start + " has at most 60 lines", i - start <= 60 || lines[i].equals("    }"));
            }
        }
    }

    private static void members() {
        e.part("members");
        for (java.lang.reflect.Method method : YearTags.class.getDeclaredMethods()) {
            boolean isPublic = java.lang.reflect.Modifier.isPublic(method.getModifiers());
            boolean isPrivate = java.lang.reflect.Modifier.isPrivate(method.getModifiers());
            e.that(method + " is public or private", isPublic || isPrivate);
            e.due(method + " is of the face", isPublic ? 1 : 0, java.util.List.of(FACE).contains(method.getName()) ? 1 : 0);
        }
        for (java.lang.reflect.Field field : YearTags.class.getDeclaredFields()) {
            int m = field.getModifiers();
            e.that(field + " is a public constant or private", java.lang.reflect.Modifier.isPrivate(m)
                || java.lang.reflect.Modifier.isPublic(m) && java.lang.reflect.Modifier.isStatic(m) && java.lang.reflect.Modifier.isFinal(m));
        }
        e.due("constructors", 1, YearTags.class.getConstructors().length);
        e.that("the class is final", java.lang.reflect.Modifier.isFinal(YearTags.class.getModifiers()));
    }
}
