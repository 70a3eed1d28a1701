import java.io.IOException;
import java.nio.charset.StandardCharsets;
import java.nio.file.Files;
import java.nio.file.Path;
import java.util.Set;
import java.util.regex.Matcher;
import java.util.regex.Pattern;

/** The rules of LANGUAGE.md that can be seen in the words of the class; it is run in the project's directory. */
public final class LanguageTest {
    private static final Check CHECK = new Check("LanguageTest");
    private static final Path FILE = Path.of("src/main/java/TileHouse.java");
    private static final int MOST_LINES = 60;
    /** Rule 6 (nothing is caught here at all), rules 2 and 13. */
    private static final Set<String> NO_WORDS = Set.of("package", "try", "catch", "finally", "synchronized",
        "assert", "instanceof", "native", "volatile", "transient", "strictfp", "goto", "equals", "hashCode",
        "toString", "protected", "double", "float");
    /** Rule 4, as far as it is used. */
    private static final Set<String> LIBRARY = Set.of("NoSuchElementException", "Long.bitCount", "Math.max");

    public static void main(String[] args) throws IOException {
        String source = Files.readString(FILE, StandardCharsets.ISO_8859_1);
        String code = withoutTexts(source);
        imports(source);
        words(code);
        library(code);
        news(code);
        methodLines(source);
        CHECK.end();
    }

    private static String withoutTexts(String source) {
        return source.replaceAll("(?s)/\\*.*?\\*/", " ").replaceAll("//[^\n]*", " ").replaceAll("\"[^\"\n]*\"", "\"\"");
    }

    private static void imports(String source) {
        Matcher found = Pattern.compile("(?m)^\\s*import\\s+([^;]+);").matcher(source);
        while (found.find()) {
            CHECK.yes("import " + found.group(1), found.group(1).equals("java.util.NoSuchElementException"));
        }
    }

    private static void words(String code) {
        Matcher found = Pattern.compile("\\b[a-z]\\w*\\b").matcher(code);
        while (found.find()) {
            CHECK.no("the word " + found.group(), NO_WORDS.contains(found.group()));
        }
        CHECK.no("a lambda", code.contains("->"));
        CHECK.no("a method reference", code.contains("::"));
        CHECK.no("an array of more than one dimension", code.contains("[][]"));
        CHECK.no("a class of the library that is not imported", code.replace("import java.", "").contains("java."));
    }

    /** Every word with a great first letter is a class of the file, a constant, or stands in LIBRARY. */
    private static void library(String code) {
        Matcher found = Pattern.compile("(?<![\\w.])([A-Z]\\w*[a-z]\\w*)(\\.[a-z]\\w*)?").matcher(code);
        while (found.find()) {
            boolean own = Pattern.compile("\\bclass " + found.group(1) + "\\b").matcher(code).find();
            CHECK.yes("the library's " + found.group(),
                own || LIBRARY.contains(found.group(1)) || LIBRARY.contains(found.group()));
        }
    }

    /** Rule 12 and the one room of a run: what is made is made with the house, or is an exception. */
    private static void news(String code) {
        Pattern made = Pattern.compile("^(private )?final \\S+ \\w+ = new \\S+;$"
            + "|^(players|wins)\\[i\\] = new (Seat|Win)\\(\\);$"
            + "|^throw new NoSuchElementException\\(\"\"\\);$");
        for (String line : code.split("\n")) {
            if (line.contains(" new ")) {
                CHECK.yes("made in a call: " + line.trim(), made.matcher(line.trim()).find());
            }
        }
    }

    /** Rule 11; members of the class are indented by four blanks, those of the classes inside by eight. */
    private static void methodLines(String source) {
        int begin = 0;
        String name = "";
        String[] lines = source.split("\n");
        for (int i = 0; i < lines.length; i++) {
            if (lines[i].matches("( {4}| {8})[\\w].*\\(.*\\).*\\{")) {
                begin = i;
                name = lines[i].trim();
            } else if (lines[i].matches("( {4}| {8})\\}") && !name.isEmpty()) {
                CHECK.yes(name + " has " + (i - begin + 1) + " lines", i - begin + 1 <= MOST_LINES);
            }
        }
    }
}
