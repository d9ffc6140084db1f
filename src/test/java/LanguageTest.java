import java.io.IOException;
import java.nio.file.Files;
import java.nio.file.Path;
import java.util.Set;
import java.util.TreeSet;
import java.util.regex.MatchResult;
import java.util.regex.Matcher;
import java.util.regex.Pattern;

/** The program keeps to those rules of LANGUAGE.md that its text alone can show. Run in the project's directory. */
public final class LanguageTest {
    private static final String[] BANNED = {
        "\\b(throw|throws|try|catch|synchronized|assert|package|import|native|strictfp)\\b", "->", "::",
        "\\b(hashCode|toString|currentTimeMillis|nanoTime|Random|Thread|File|Object|Exact)\\b", "\\w+Exact\\b",
        "\\[\\]\\[\\]\\[\\]", "static\\s*\\{", "\\b(double|float)\\b"
    };

    public static void main(String[] args) throws IOException {
        Check check = new Check("LanguageTest");
        String source = Files.readString(Path.of("src/main/java/ManyGoods.java"));
        String code = source.replaceAll("(?s)/\\*.*?\\*/", "").replaceAll("//[^\n]*", "");
        for (String banned : BANNED) {
            Matcher matcher = Pattern.compile(banned).matcher(code);
            check.holds("no " + banned, !matcher.find());
        }
        check.holds("characters 0 to 255", source.chars().allMatch(c -> c < 256));
        check.holds("twelve classes at most", Pattern.compile("\\bclass\\s+\\w+").matcher(code).results().count() <= 12);
        checkStaticFields(check, code);
        checkMethods(check, code);
        checkNames(check, code);
        checkMaking(check, code);
        check.end();
    }

    private static void checkStaticFields(Check check, String code) {
        Matcher fields = Pattern.compile("[^\n]*\\bstatic\\b[^\n({]*[=;][^\n]*").matcher(code);
        while (fields.find()) {
            check.holds("final: " + fields.group().trim(), fields.group().contains("static final int"));
        }
    }

    /** Beside the program's own classes no name of a type stands there but Math, with functions over int and long. */
    private static void checkNames(Check check, String code) {
        Set<String> own = new TreeSet<>();
        Pattern.compile("\\bclass\\s+(\\w+)").matcher(code).results().forEach(found -> own.add(found.group(1)));
        Pattern.compile("\\b[A-Z]\\w*[a-z]\\w*").matcher(code).results().map(MatchResult::group).distinct()
            .forEach(name -> check.holds("an own name: " + name, own.contains(name) || name.equals("Math")));
        Pattern.compile("\\bMath\\.(\\w+)").matcher(code).results().map(found -> found.group(1)).distinct()
            .forEach(name -> check.holds("Math." + name, name.equals("min") || name.equals("max") || name.equals("abs")));
    }

    /** Objects and rows are made with the object alone, so that no run of calls fills the room. */
    private static void checkMaking(Check check, String code) {
        String methods = code.replaceAll("\n +(private )?final [^\n]*= new [^\n]*;", "")
            .replaceAll("(?s)\n( +)(public )?[A-Z]\\w*\\(\\) \\{.*?\n\\1\\}", "");
        Matcher making = Pattern.compile("[^\n]*\\bnew\\b[^\n]*").matcher(methods);
        while (making.find()) {
            check.holds("made by a call: " + making.group().trim(), false);
        }
        check.holds("constructors and fields make them", code.contains("= new ") && methods.length() < code.length());
    }

    private static void checkMethods(Check check, String code) {
        Matcher heads = Pattern.compile("\n( {4,8})(?:[a-z]+ )*[A-Za-z\\[\\]]+ \\w+\\(([^)]*)\\) \\{\n").matcher(code);
        int found = 0;
        while (heads.find()) {
            found++;
            int end = code.indexOf("\n" + heads.group(1) + "}", heads.end() - 1);
            String name = heads.group().trim();
            check.holds(name + " has an end", end > 0);
            check.holds(name + " is short", code.substring(heads.end(), Math.max(heads.end(), end)).lines().count() <= 60);
            check.holds(name + " takes seven at most", heads.group(2).split(",").length <= 7);
        }
        check.holds("methods found: " + found, found >= 21);
    }
}
