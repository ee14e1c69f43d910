import java.nio.file.Files;
import java.nio.file.Path;
import java.util.List;
import java.util.regex.Matcher;
import java.util.regex.Pattern;

/** What of LANGUAGE.md can be seen in the words of the source; run from the project's root. */
public final class RulesTest {
    private static final List<String> BANNED = List.of(
            "throw", "throws", "try", "catch", "finally", "synchronized", "assert", "new\\s+Random", "Exact",
            "->", "::", "package", "native", "volatile", "transient", "Thread", "System\\.(?!arraycopy)",
            "\\.equals", "hashCode", "toString", "Object", "@", "static\\s*\\{", "\\bvar\\b");

    public static void main(String[] args) throws Exception {
        String source = Files.readString(Path.of("src/main/java/FibredSpaces.java"));
        Due.is("only signs 1 to 127", source.chars().filter(c -> c < 1 || c > 127).count(), 0);
        String code = source.replaceAll("(?s)/\\*.*?\\*/", "").replaceAll("//[^\n]*", "");
        for (String word : BANNED) {
            String whole = word.matches("[a-z]+") ? "\\b" + word + "\\b" : word;
            Due.is("uses of " + word, Pattern.compile(whole).matcher(code).results().count(), 0);
        }
        Matcher imports = Pattern.compile("import ([^;]+);").matcher(code);
        while (imports.find()) {
            boolean listed = List.of("java.util.Arrays", "java.util.ArrayList", "java.util.List").contains(imports.group(1));
            Due.is("import of " + imports.group(1), listed ? 1 : 0, 1);
        }
        long classes = Pattern.compile("\\b(class|record|enum|interface)\\b").matcher(code).results().count();
        Due.is(classes + " classes are at most twelve", classes <= 12 ? 1 : 0, 1);
        methodsAreShort(source);
        Due.end();
    }

    private static void methodsAreShort(String source) {
        Matcher heads = Pattern.compile("(?m)^( +)[\\w\\[\\]<> ]+\\([^;{}]*\\) \\{$").matcher(source);
        while (heads.find()) {
            int end = source.indexOf("\n" + heads.group(1) + "}", heads.end());
            long lines = source.substring(heads.start(), end).lines().count();
            Due.is(heads.group().trim() + " has " + lines + " lines", lines <= 60 ? 1 : 0, 1);
            long commas = heads.group().chars().filter(c -> c == ',').count();
            Due.is(heads.group().trim() + " has few parameters", commas <= 6 ? 1 : 0, 1);
        }
    }
}
