/** Counts calls whose answer is, or is not, the one that is due. */
final class Check {
  private static int right = 0;
  private static int wrong = 0;

  private Check() {
  }

  static void due(String call, long got, long want) {
    if (got == want) {
      right++;
      return;
    }
    wrong++;
    if (wrong <= 40) {
      System.out.println(call + " answered " + got + ", due is " + want);
    }
  }

  /** Puts a text, as a row of bytes, on a shelf. */
  static void shelve(TwoToALocker x, int d, String text) {
    due("row for a text", x.row(d, 0, text.length()), 0);
    for (int i = 0; i < text.length(); i++) {
      due("put of a text", x.put(d, i, text.charAt(i)), 0);
    }
  }

  /** Puts numbers, as a row of that sort, on a shelf. */
  static void shelve(TwoToALocker x, int d, int sort, int... numbers) {
    due("row for numbers", x.row(d, sort, numbers.length), 0);
    for (int i = 0; i < numbers.length; i++) {
      due("put of a number", x.put(d, i, numbers[i]), 0);
    }
  }

  /** A new object with the school that the text tells. */
  static TwoToALocker school(String text) {
    TwoToALocker x = new TwoToALocker();
    if (!text.isEmpty()) {
      shelve(x, 7, text);
      due("school of " + text, x.school(7), text.chars().filter(c -> c == ';').count());
      x.keep(7, 0, 0, 0);
    }
    return x;
  }

  /** What a text is answered on a new object. */
  static void fault(String text, long want) {
    faultOn(new TwoToALocker(), text, want);
  }

  static void faultOn(TwoToALocker x, String text, long want) {
    shelve(x, 7, text);
    int pupils = x.count(0);
    int lockers = x.count(1);
    int pence = x.count(2);
    int keys = x.count(3);
    int nowhere = x.count(4);
    int content = x.all();
    due("school of " + text, x.school(7), want);
    due("pupils behind " + text, x.count(0), pupils);
    due("lockers behind " + text, x.count(1), lockers);
    due("pence behind " + text, x.count(2), pence);
    due("keys behind " + text, x.count(3), keys);
    due("who is in none behind " + text, x.count(4), nowhere);
    due("content behind " + text, x.all(), content);
  }

  static void end() {
    System.out.println(right + " answers as due, " + wrong + " not");
    if (wrong != 0) {
      System.exit(1);
    }
  }
}
