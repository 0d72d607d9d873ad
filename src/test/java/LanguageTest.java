import java.io.IOException;
import java.lang.reflect.Member;
import java.lang.reflect.Modifier;
import java.nio.charset.StandardCharsets;
import java.nio.file.Files;
import java.nio.file.Path;
import java.util.regex.Matcher;
import java.util.regex.Pattern;

/** Rules of LANGUAGE.md that the program's text shows. */
public final class LanguageTest {
    private static final String[] FORBIDDEN = {"import", "package", "try", "catch", "finally",
        "synchronized", "assert", "instanceof", "lambda", "System", "Object", "protected", "record",
        "volatile", "transient", "native", "random", "Exact", "->", "::", "toString", "hashCode",
        "equals", "while (true)", "for (;;)"};
    private static final int LONGEST_METHOD = 60;

    public static void main(String[] args) throws IOException {
        byte[] bytes = Files.readAllBytes(Path.of("src/main/java/ClosedStreets.java"));
        int beyond = 0;
        for (byte b : bytes) {
            beyond += b < 0 ? 1 : 0;
        }
        Due.is("signs beyond ASCII", 0, beyond);
        String source = new String(bytes, StandardCharsets.US_ASCII);
        String code = source.replaceAll("(?s)/\\*.*?\\*/", "").replaceAll("//[^\n]*", "");
        for (String word : FORBIDDEN) {
            boolean letters = Character.isLetter(word.charAt(0));
            Pattern found = Pattern.compile(letters ? "\\b" + word + "\\b" : word,
                    letters ? 0 : Pattern.LITERAL);
            Due.row("the program holds " + word, found.matcher(code).find(), false);
        }
        face(code.replaceAll("\\s+", " "));
        ownNames(code);
        lengths(source);
        Due.end();
    }

    /** The class has what the document shows, and nothing else that can be seen from outside. */
    private static void face(String code) {
        Due.row("the class begins as the document shows it",
                code.trim().startsWith("public final class ClosedStreets {"), true);
        for (String line : Doc.face()) {
            String shown = line.trim().replaceAll(";$", "");
            Due.row("the class has " + shown, code.contains(shown), true);
        }
        Class<?> type = ClosedStreets.class;
        Due.is("fields to be seen", 1, seen(type.getDeclaredFields()));
        Due.is("methods to be seen", 28, seen(type.getDeclaredMethods()));
        Due.is("constructors to be seen", 1, seen(type.getDeclaredConstructors()));
        for (Class<?> inside : type.getDeclaredClasses()) {
            Due.row(inside + " is static", Modifier.isStatic(inside.getModifiers()), true);
        }
    }

    private static int seen(Member[] members) {
        int seen = 0;
        for (Member member : members) {
            seen += Modifier.isPrivate(member.getModifiers()) || member.isSynthetic() ? 0 : 1;
        }
        return seen;
    }

    /** No method but those of the face bears a name of the face. */
    private static void ownNames(String code) {
        Matcher face = Pattern.compile("public int (\\w+)\\(").matcher(code);
        int methods = 0;
        while (face.find()) {
            methods++;
            Matcher own = Pattern.compile("(?m)^ +(?!public)(?:private |static )*[A-Za-z\\[\\]]+ "
                    + face.group(1) + "\\([^;]*\\{$").matcher(code);
            while (own.find()) {
                Due.row("a method named like one of the face",
                        own.group().trim().startsWith("return"), true);
            }
        }
        Due.is("methods of the face", 28, methods);
    }

    private static void lengths(String source) {
        int begun = 0;
        int line = 0;
        for (String text : source.split("\n")) {
            line++;
            if (text.matches(" {4,8}[^ /].*\\) ?(throws .*)?\\{")) {
                begun = line;
            }
            if (text.matches(" {4,8}\\}")) {
                Due.row("a method that ends in line " + line + " is too long",
                        begun != 0 && line - begun > LONGEST_METHOD, false);
                begun = 0;
            }
        }
    }
}
