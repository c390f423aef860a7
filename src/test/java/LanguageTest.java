import java.nio.file.Files;
import java.nio.file.Path;
import java.util.regex.Matcher;
import java.util.regex.Pattern;

/** What of LANGUAGE.md can be seen in the text of the program; a look, not a proof. */
public final class LanguageTest {
    private static final String[] NEVER = {
        "\\bimport\\b", "\\bpackage\\b", "->", "::", "\\bcatch\\b", "\\bfinally\\b", "\\bsynchronized\\b", "\\bassert\\b",
        "\\w+Exact\\b", "\\bprotected\\b", "\\bCharacter\\b", "\\bSystem\\.(?!arraycopy)", "\\bString\\.", "\\bThread\\b",
        "\\bvar\\b", "\\bparse\\w+\\(", "\\bto(String|Unsigned\\w+|Hex\\w+)\\((?!\\))", "\\+ \"", "\" \\+",
        "(divide|remainder)Unsigned"};
    private static final String EXCEPTIONS = "IllegalStateException|IllegalArgumentException|IndexOutOfBoundsException";

    public static void main(String[] args) throws Exception {
        Due.is("the program is named", args.length, 2);
        String program = Files.readString(Path.of(args[0]));
        String code = program.replaceAll("/\\*(.|\n)*?\\*/", "").replaceAll("//[^\n]*", "");
        for (String never : NEVER) {
            Matcher found = Pattern.compile(never).matcher(code);
            Due.is(never + " stands in the program", found.find() ? found.group() : "", "");
        }
        Due.is("signs 1 to 127 alone", program.chars().allMatch(sign -> sign > 0 && sign < 128), true);
        Matcher thrown = Pattern.compile("throw (?!new (" + EXCEPTIONS + ")\\(\"[^\"]*\"\\);)").matcher(code);
        Due.is("every throw is rule 6's", thrown.find(), false);
        methodsAreShort(code);
        Due.end();
    }

    private static void methodsAreShort(String code) {
        int since = 0;
        int at = 0;
        for (String line : code.split("\n")) {
            at++;
            if (line.matches(" +[a-z].*[(].*[{]") && !line.matches(" +(if|for|switch|do)\\b.*")) {
                since = at;
            }
            Due.is("line " + at + " of a method is its " + (at - since + 1) + "th", at - since < 60, true);
        }
    }
}
