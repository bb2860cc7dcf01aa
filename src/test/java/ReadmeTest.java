import java.io.IOException;
import java.nio.charset.StandardCharsets;
import java.nio.file.Files;
import java.nio.file.Path;
import java.util.List;
import java.util.regex.Matcher;
import java.util.regex.Pattern;
import java.util.stream.Stream;

/** What README.md and NOTES.md say holds: each example, each name; run from the project's folder. */
public final class ReadmeTest {
  private static final Path README = Path.of("README.md");
  private static final Path NOTES = Path.of("NOTES.md");
  private static final Path TESTS = Path.of("src/test/java");
  private static final Pattern CALL =
      Pattern.compile("x\\.([a-zA-Z]+)\\(([^()]*)\\); +// (-?[0-9]+|[A-Za-z]+Exception)(:.*)?");

  public static void main(String[] args) throws IOException {
    examples();
    refusals();
    names();
    Check.end();
  }

  private static void examples() throws IOException {
    TwoToALocker x = new TwoToALocker();
    boolean inside = false;
    int lines = 0;
    for (String line : Files.readAllLines(README, StandardCharsets.US_ASCII)) {
      if (line.startsWith("```")) {
        inside = line.equals("```java");
      } else if (inside) {
        lines++;
        if (line.equals("TwoToALocker x = new TwoToALocker();")) {
          x = new TwoToALocker();
        } else {
          example(x, line);
        }
      }
    }
    Check.due("examples are found", lines > 40 ? 1 : 0, 1);
  }

  private static void example(TwoToALocker x, String line) {
    Matcher m = CALL.matcher(line);
    if (!m.matches()) {
      Check.due("README.md's line can be read: " + line, 0, 1);
      return;
    }
    int[] arguments = Stream.of(m.group(2).split(", ")).filter(one -> !one.isEmpty())
        .mapToInt(ReadmeTest::number).toArray();
    Check.due("README.md: " + line, Face.call(x, m.group(1), arguments), answer(m.group(3)));
  }

  private static int number(String argument) {
    return argument.startsWith("'") ? argument.charAt(1) : Integer.parseInt(argument);
  }

  private static long answer(String told) {
    switch (told) {
      case "IllegalArgumentException": return Face.THROWS_IAE;
      case "IllegalStateException": return Face.THROWS_ISE;
      default: return Long.parseLong(told);
    }
  }

  /** Each line of the table of refusals, and what is said behind it. */
  private static void refusals() {
    TwoToALocker x = Check.school("p000;p000;p000;l00;m00;m10;");
    Face.due(x, -1, "pupil", 3, 0);
    for (int l = 1; l < 5; l++) {
      Face.due(x, l, "stands", 0, 0);
    }
    Face.due(x, -2, "stands", 0, 0);
    Face.due(x, -3, "moves", 2, 0);
    Face.due(x, -4, "pupil", 2, 6);
    Face.due(x, -11, "cost", 0);
    Face.due(x, 0, "row", 0, 0, 1);
    Face.due(x, -12, "cost", 0);
    Face.due(x, -13, "put", 0, 1, 0);
    Face.due(x, -14, "row", 0, 0, -1);
    Face.due(x, -1000, "school", 0);
    Check.shelve(x, 0, "k5;");
    Face.due(x, -2000, "school", 0);
    Face.due(x, 0, "keep", 0, 1, 1, 0);
    Face.due(x, -15, "toss", 0);
    Face.due(x, 1000000001, "content", 3);
    Face.due(x, 1000000001, "list", 2);
    Face.due(x, 1000000001, "terms", 0, 0, 0);
    Face.due(x, 1000000001, "gone", 5, 2, 1, 0);
    // whichever two of these there are, one of them and the third would rather have one another
    Face.due(Check.school("p530;p150;p020;"), -5, "rests", 0);
  }

  private static void names() throws IOException {
    String notes = Files.readString(NOTES, StandardCharsets.US_ASCII);
    String said = notes + Files.readString(README, StandardCharsets.US_ASCII);
    try (Stream<Path> files = Files.list(TESTS)) {
      List<String> tests = files.map(file -> file.getFileName().toString().replace(".java", ""))
          .filter(name -> name.endsWith("Test")).sorted().toList();
      for (String test : tests) {
        Check.due("NOTES.md tells of " + test, notes.contains("`" + test + "`") ? 1 : 0, 1);
      }
      Matcher m = Pattern.compile("\\b[A-Z][a-zA-Z]*Test\\b").matcher(said);
      while (m.find()) {
        Check.due("there is a " + m.group(), tests.contains(m.group()) ? 1 : 0, 1);
      }
    }
    Check.due(".ci/run can be run", Files.isExecutable(Path.of(".ci/run")) ? 1 : 0, 1);
  }
}
