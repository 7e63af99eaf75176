import java.io.IOException;
import java.nio.file.Files;
import java.nio.file.Path;
import java.util.HashSet;
import java.util.List;
import java.util.Set;
import java.util.regex.Matcher;
import java.util.regex.Pattern;

/** Rules of LANGUAGE.md that can be read off the text of the class. */
public final class LanguageTest {
    private static final Pattern METHOD =
        Pattern.compile("^ +(public |private |static |final )*[\\w\\[\\]]+ (\\w+)\\(([^)]*)\\)[\\w, ]*\\{$");

    private static void noForbiddenWords(String code) {
        String[] words = {"import", "package", "protected", "synchronized", "finally", "assert", "catch", "try", "var",
            "Exact\\(", "MAX_VALUE", "MIN_VALUE", "String", "Object", "System", "Random", "while", "null", "->", "::"};
        for (String word : words) {
            String bound = Character.isLetter(word.charAt(0)) ? "\\b" : "";
            Pattern pattern = Pattern.compile(bound + word + (word.endsWith("(") || bound.isEmpty() ? "" : "\\b"));
            Check.same("'" + word + "' in the class", pattern.matcher(code).find() ? 1 : 0, 0);
        }
    }

    private static void methods(List<String> lines) {
        Set<String> face = new HashSet<>();
        Set<String> others = new HashSet<>();
        for (int i = 0; i < lines.size(); i++) {
            Matcher method = METHOD.matcher(lines.get(i));
            if (!method.matches()) {
                continue;
            }
            String name = method.group(2);
            (lines.get(i).startsWith("    public ") ? face : others).add(name);
            String end = lines.get(i).replaceAll("\\S.*", "") + "}";
            int length = 1;
            while (!lines.get(i + length).equals(end)) {
                length++;
            }
            Check.same(name + " is longer than 60 lines", length > 60 ? 1 : 0, 0);
            Check.same(name + " has more than 7 parameters", method.group(3).split(",").length > 7 ? 1 : 0, 0);
        }
        Check.same("the constructor and the public methods", face.size(), 31);
        others.retainAll(face);
        Check.same("other methods with a public one's name", others.size(), 0);
    }

    public static void main(String[] args) throws IOException {
        String text = Files.readString(Path.of("src/main/java/BoxesGame.java"));
        Check.same("signs beyond 127", text.chars().anyMatch(c -> c > 126) ? 1 : 0, 0);
        String code = text.replaceAll("(?s)/\\*.*?\\*/", "").replaceAll("//[^\n]*", "").replaceAll("\"[^\"\n]*\"", "\"\"");
        noForbiddenWords(code);
        methods(List.of(text.split("\n")));
        Check.same("classes", code.split("\\bclass\\b").length - 1 <= 12 ? 1 : 0, 1);
        Check.end();
    }
}
