import java.nio.charset.StandardCharsets;
import java.nio.file.Files;
import java.nio.file.Path;
import java.util.regex.Matcher;
import java.util.regex.Pattern;

/** What of ../shared/LANGUAGE.md can be read off the text of the class; run from the project's folder. */
public final class LanguageTest {
  private static final Path MAIN = Path.of("src/main/java/TwoToALocker.java");
  private static final String[] FORBIDDEN = {
    "->", "::", "@", "\\bimport\\b", "\\bpackage\\b", "\\bfinally\\b", "\\bsynchronized\\b", "\\bassert\\b",
    "Exact\\b", "\\bThread\\b", "\\bSystem\\.(?!arraycopy\\b)", "\\bstatic\\s*\\{", "\\bString\\b", "\\bObject\\b",
    "getMessage", "\\bdouble\\b", "\\bfloat\\b", "\\bprotected\\b", "\\bnative\\b", "\\bvar\\b",
    "catch \\((Runtime|Arithmetic|IndexOutOf|Array|NullPointer|ClassCast|Negative)?Exception\\b",
    "catch \\((Throwable|Error)\\b", "[^\\x00-\\x7f]",
    // the library: functions that rule 4 names or likens, and no constants of its classes
    "\\b(Integer|Long|Math)\\.(?!(compare|max|min|abs|bitCount|floorDiv|floorMod)\\()",
    "\\bArrays\\.(?!(copyOf|copyOfRange|fill)\\()",
    "\\b(Character|Byte|Short|Boolean|Double|Float|Objects|Collections|Map|Set|Optional)\\b"};

  public static void main(String[] args) throws Exception {
    String source = Files.readString(MAIN, StandardCharsets.ISO_8859_1);
    String code = source.replaceAll("(?s)/\\*.*?\\*/", "").replaceAll("//[^\\n]*", "").replaceAll("\"[^\"\\n]*\"", "\"\"");
    for (String one : FORBIDDEN) {
      Check.due("signs like " + one, count(code, one), 0);
    }
    Check.due("at most twelve classes", count(code, "\\b(class|enum|record|interface) [A-Z]") <= 12 ? 1 : 0, 1);
    Check.due("a static field is final", count(code, "\\bstatic (?!final\\b)[^(){};=]*[;=]"), 0);
    methods(code);
    Check.end();
  }

  private static long count(String code, String sign) {
    return Pattern.compile(sign).matcher(code).results().count();
  }

  private static void methods(String code) {
    Matcher m = Pattern.compile("(?m)^( +)(?:[a-z]+ )*[A-Za-z\\[\\]]+ ([a-z][A-Za-z]*)\\(([^()]*)\\)[^;{]*\\{$").matcher(code);
    int found = 0;
    while (m.find()) {
      if (m.group(2).matches("if|for|while|switch|catch|return")) {
        continue;
      }
      found++;
      int end = code.indexOf("\n" + m.group(1) + "}", m.end());
      long lines = code.substring(m.start(), end).chars().filter(c -> c == '\n').count();
      Check.due(m.group(2) + " is short", lines <= 60 ? 1 : 0, 1);
      Check.due(m.group(2) + " takes at most seven", m.group(3).split(",").length <= 7 ? 1 : 0, 1);
    }
    Check.due("methods are found", found > 100 ? 1 : 0, 1);
  }
}
