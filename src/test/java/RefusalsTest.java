/** Each refusal of each call, the first told where several hold; a refused call has changed nothing. */
public final class RefusalsTest {
  private static final long ABOVE_1 = 1000000001L;
  private static final long ABOVE_3 = 1000000003L;

  /** Locker 0 is full, 1 has one, 2 nobody and no keys; pupil 3 is in none. */
  private static final String SOME = "p050;p151;p420;p790;l10;l21;l90;m00;m10;m21;n2;n1;k2;k2;k1;";
  /** Eight pupils and five lockers. */
  private static final String FULL =
      "p050;p151;p252;p353;p454;p555;p650;p751;l10;l21;l30;l41;l50;m00;m10;";
  private static final String ONE = "p050;l00;";

  /** Shelves of each object here: what they hold. */
  private static final int BYTES = 0;
  private static final int SHORTS = 1;
  private static final int INTS = 2;
  private static final int FUSSY = 3;
  private static final int SMELLY = 4;
  private static final int EMPTY = 5;
  private static final int NO_ELEMENT = 6;
  private static final int FIGURE_0 = 7;

  public static void main(String[] args) {
    toldCalls();
    textsRefused();
    asked();
    keysAndTerms();
    rowsJudged();
    shelves();
    copies();
    imageAndRest();
    Check.end();
  }

  private static void toldCalls() {
    refused(SOME, -1, "joins", 8, 0);
    refused(SOME, -1, "joins", 8, 6);
    refused(SOME, -1, "joins", EMPTY, 6);
    refused(SOME, -1, "joins", EMPTY, -1);
    refused(SOME, -1, "joins", BYTES, 6);
    refused(SOME, -1, "joins", BYTES, -1);
    refused(FULL, -1, "joins", FUSSY, 6);
    refused(FULL, -1, "joins", FUSSY, -1);
    refused(FULL, -1, "joins", -1, 0);
    refused(SOME, -11, "joins", EMPTY, 0);
    refused(FULL, -11, "joins", EMPTY, 5);
    for (int row : new int[] {BYTES, SHORTS, INTS, NO_ELEMENT}) {
      refused(SOME, -12, "joins", row, 0);
      refused(FULL, -12, "joins", row, 5);
    }
    refused(FULL, -2, "joins", FUSSY, 0);
    refused(FULL, -2, "joins", SMELLY, 5);
    refused(FULL, -2, "stands", 0, 0);
    refused(FULL, -2, "stands", 9, 1);
    refused(FULL, -1, "stands", 10, 1);
    refused(FULL, -1, "stands", 9, 2);
    refused(FULL, -1, "stands", -1, 0);
    refused(FULL, -1, "stands", 0, -1);
    refused(SOME, -3, "moves", 3, 0);
    refused(SOME, -3, "moves", 2, 0);
    refused(SOME, -1, "moves", 4, 0);
    refused(SOME, -1, "moves", -1, 9);
    refused(SOME, -1, "moves", 3, 3);
    refused(SOME, -1, "changes", 3, 3);
    refused(SOME, -1, "changes", 4, 4);
    refused(SOME, -3, "loses", 2);
    refused(SOME, -1, "loses", 3);
  }

  private static void textsRefused() {
    refused(SOME, -1, "school", 8);
    refused(SOME, -11, "school", EMPTY);
    refused(SOME, -12, "school", FUSSY);
    refused(SOME, -12, "school", SHORTS);
    refused(SOME, -12, "school", INTS);
    refused(SOME, -1000, "school", NO_ELEMENT);
    refused(SOME, -1000, "school", BYTES);
  }

  private static void asked() {
    for (int p : new int[] {-1, 4, 9}) {
      refused(SOME, -1, "pupil", p, 7);
      refused(SOME, -1, "locker", p, 4);
      refused(SOME, -1, "bears", p, p);
      refused(SOME, -1, "trouble", p, 3);
      refused(SOME, ABOVE_1, "content", p);
      refused(SOME, -1, "placedAt", p);
      refused(SOME, -1, "otherwise", p);
    }
    refused(SOME, -1, "best", -2);
    refused(SOME, -1, "rests", -2);
    refused(SOME, -1, "envy", -2);
    refused(SOME, -1, "price", 0);
    refused(SOME, -1, "alone", 100);
    refused(SOME, ABOVE_1, "list", 2);
    for (String name : new String[] {"clashes", "rather", "hours", "turn", "widowed"}) {
      refused(SOME, -1, name, 2);
      refused(SOME, -1, name, -1);
    }
    refused(SOME, -1, "count", 6);
  }

  private static void keysAndTerms() {
    refused(SOME, ABOVE_1, "gone", 3, 1, 5, 2);
    refused(SOME, ABOVE_1, "gone", 2, 21, 1, 0);
    refused(SOME, -3, "dent", 3, 0, 0);
    refused(SOME, -3, "dent", 3, 999, 2);
    refused(SOME, -1, "dent", 3, 1000, 0);
    refused(SOME, -1, "dent", 3, -1, 0);
    refused(SOME, -1, "dent", 3, 0, 3);
    refused(SOME, -1, "dent", 3, 0, -1);
    refused(SOME, -1, "dent", 4, 0, 0);
    for (String school : new String[] {"", ONE}) {
      refused(school, ABOVE_3, "terms", 1, 0, 0);
      refused(school, ABOVE_3, "terms", 20, -1, 1);
      refused(school, ABOVE_1, "terms", 0, 0, 0);
      refused(school, ABOVE_1, "terms", 21, 0, 0);
      refused(school, ABOVE_1, "terms", 1, 0, 2);
      refused(school, ABOVE_1, "terms", 1, 0, -1);
    }
    refused(SOME, ABOVE_1, "terms", 21, 0, 2);
  }

  private static void rowsJudged() {
    for (int what = 0; what <= 2; what++) {
      refused(SOME, -1, "june", -1, what);
      refused(SOME, -11, "june", EMPTY, what);
      refused(SOME, -12, "june", SMELLY, what);
      refused(SOME, -13, "june", BYTES, what);
      refused(SOME, -13, "june", SHORTS, what);
      refused(SOME, -13, "june", INTS, what);
      refused(SOME, -13, "june", NO_ELEMENT, what);
    }
    for (int what : new int[] {-1, 3}) {
      refused(SOME, -1, "june", 8, what);
      refused(SOME, -1, "june", EMPTY, what);
      refused(SOME, -1, "june", SMELLY, what);
      refused(SOME, -1, "june", BYTES, what);
    }
    for (String name : new String[] {"forged", "judge"}) {
      refused(SOME, -1, name, 8);
      refused(SOME, -1, name, -1);
      refused(SOME, -11, name, EMPTY);
      refused(SOME, -12, name, FUSSY);
      refused(SOME, -12, name, FIGURE_0);
    }
  }

  private static void shelves() {
    refused(SOME, -1, "keep", 8, 0, 0, 0);
    refused(SOME, -1, "keep", FUSSY, 2, 0, 0);
    refused(SOME, -1, "keep", FUSSY, 1, 8, 0);
    refused(SOME, -1, "keep", BYTES, 1, 0, 10);
    refused(SOME, -1, "keep", EMPTY, 1, -1, -1);
    refused(SOME, -1, "row", 8, 0, -1);
    refused(SOME, -1, "row", -1, 0, 101);
    refused(SOME, -1, "row", INTS, 3, -1);
    refused(SOME, -1, "row", INTS, -1, -1);
    refused(SOME, -1, "row", INTS, 2, 101);
    refused(SOME, -14, "row", INTS, 2, -1);
    refused(SOME, -14, "row", FUSSY, 0, Integer.MIN_VALUE);
    refused(SOME, -1, "put", 8, -1, 7);
    refused(SOME, -11, "put", EMPTY, 0, 7);
    refused(SOME, -11, "put", EMPTY, -1, 7);
    refused(SOME, -12, "put", FUSSY, 0, 7);
    refused(SOME, -12, "put", FUSSY, 100, 7);
    refused(SOME, -13, "put", NO_ELEMENT, 0, 7);
    refused(SOME, -13, "put", BYTES, 3, 7);
    refused(SOME, -13, "put", INTS, -1, 7);
    refused(SOME, Face.THROWS_IAE, "element", 8, 0);
    refused(SOME, Face.THROWS_IAE, "element", -1, -1);
    refused(SOME, Face.THROWS_IAE, "element", 8, 100);
    refused(SOME, Face.THROWS_ISE, "element", EMPTY, 0);
    refused(SOME, Face.THROWS_ISE, "element", EMPTY, -1);
    refused(SOME, Face.THROWS_ISE, "element", FUSSY, 0);
    refused(SOME, Face.THROWS_ISE, "element", NO_ELEMENT, 0);
    refused(SOME, Face.THROWS_ISE, "element", BYTES, 3);
    refused(SOME, Face.THROWS_ISE, "element", BYTES, -1);
    for (String name : new String[] {"cost", "toss"}) {
      refused(SOME, -1, name, 8);
      refused(SOME, -1, name, -1);
      refused(SOME, -11, name, EMPTY);
      refused(SOME, -12, name, BYTES);
      refused(SOME, -12, name, NO_ELEMENT);
    }
    refused(SOME, -15, "toss", SMELLY);
    refused(SOME, -15, "toss", FIGURE_0);
  }

  private static void copies() {
    refused(SOME, -1, "copy", 8, 0, EMPTY, 0, 0);
    refused(SOME, -1, "copy", EMPTY, 0, 8, 0, 0);
    refused(SOME, -1, "copy", FUSSY, 0, -1, 0, 0);
    refused(SOME, -1, "copy", BYTES, -1, 8, 0, 0);
    refused(SOME, -11, "copy", EMPTY, 0, EMPTY, 0, 0);
    refused(SOME, -11, "copy", EMPTY, 0, FUSSY, 0, 0);
    refused(SOME, -11, "copy", FUSSY, 0, EMPTY, 0, 0);
    refused(SOME, -11, "copy", EMPTY, -1, BYTES, -1, -1);
    refused(SOME, -11, "copy", BYTES, -1, EMPTY, -1, -1);
    refused(SOME, -12, "copy", FUSSY, 0, FUSSY, 0, 0);
    refused(SOME, -12, "copy", FUSSY, 0, SMELLY, 0, 0);
    refused(SOME, -12, "copy", BYTES, 0, FUSSY, 0, 0);
    refused(SOME, -12, "copy", FUSSY, 0, BYTES, 0, 0);
    refused(SOME, -12, "copy", BYTES, 0, SHORTS, 0, 0);
    refused(SOME, -12, "copy", SHORTS, 0, INTS, 0, 1);
    refused(SOME, -12, "copy", INTS, 0, BYTES, 0, 1);
    refused(SOME, -12, "copy", INTS, -1, BYTES, 7, -1);
    refused(SOME, -13, "copy", BYTES, -1, BYTES, 0, 1);
    refused(SOME, -13, "copy", BYTES, 0, BYTES, -1, 1);
    refused(SOME, -13, "copy", BYTES, 0, BYTES, 0, -1);
    refused(SOME, -13, "copy", BYTES, 0, BYTES, 0, 4);
    refused(SOME, -13, "copy", BYTES, 1, BYTES, 0, 3);
    refused(SOME, -13, "copy", BYTES, 0, BYTES, 1, 3);
    refused(SOME, -13, "copy", BYTES, 0, NO_ELEMENT, 0, 1);
    refused(SOME, -13, "copy", NO_ELEMENT, 0, BYTES, 0, 1);
    refused(SOME, -13, "copy", BYTES, 4, BYTES, 0, 0);
    refused(SOME, -13, "copy", BYTES, 0, BYTES, 4, 0);
    refused(SOME, -13, "copy", BYTES, 2, BYTES, 0, Integer.MAX_VALUE);
    refused(SOME, -13, "copy", BYTES, 0, BYTES, 2, Integer.MAX_VALUE);
    refused(SOME, -13, "copy", BYTES, Integer.MAX_VALUE, BYTES, 0, 1);
    refused(SOME, -13, "copy", BYTES, 0, BYTES, Integer.MAX_VALUE, 1);
    refused(SOME, -13, "copy", BYTES, Integer.MIN_VALUE, BYTES, 0, Integer.MIN_VALUE);
  }

  /** restore() without an image, and makes() at the end of the pence, with all else seen to stay. */
  private static void imageAndRest() {
    TwoToALocker x = shelved(SOME);
    String seen = Face.school(x) + Face.shelves(x);
    Check.due("restore without an image", x.restore(), -3);
    Check.due("nothing changed", (Face.school(x) + Face.shelves(x)).equals(seen) ? 1 : 0, 1);
    TwoToALocker y = atLastPence();
    Check.due("loses", y.loses(1), 1);
    String school = Face.school(y);
    Check.due("makes above 9999", y.makes(1), -3);
    Check.due("makes above 9999, of what is there", y.makes(0), -3);
    Check.due("no such locker goes ahead", y.makes(2), -1);
    Check.due("no such locker goes ahead", y.makes(-1), -1);
    Check.due("nothing changed", Face.school(y).equals(school) ? 1 : 0, 1);
  }

  private static TwoToALocker atLastPence() {
    TwoToALocker x = Check.school("l00;l00;");
    Check.shelve(x, 0, "n0;".repeat(33));
    for (int i = 0; i < 60; i++) {
      x.school(0);
    }
    for (int i = 0; i < 19; i++) {
      x.makes(0);
    }
    Check.due("the last pence", x.count(2), 9995);
    return x;
  }

  /** That call is refused so; the school, the shelves and the image are as they were. */
  private static void refused(String school, long refusal, String name, int... arguments) {
    TwoToALocker x = shelved(school);
    String imaged = Face.school(x);
    x.image();
    if (x.count(1) > 0) {
      x.makes(0);
    }
    String seen = Face.school(x);
    String shelves = Face.shelves(x);
    String call = Face.text(name, arguments);
    Check.due(call, Face.call(x, name, arguments), refusal);
    Check.due("the school behind " + call, Face.school(x).equals(seen) ? 1 : 0, 1);
    Check.due("the shelves behind " + call, Face.shelves(x).equals(shelves) ? 1 : 0, 1);
    x.restore();
    Check.due("the image behind " + call, Face.school(x).equals(imaged) ? 1 : 0, 1);
  }

  private static TwoToALocker shelved(String school) {
    TwoToALocker x = Check.school(school);
    Check.shelve(x, BYTES, 0, 1, -2, 3);
    Check.shelve(x, SHORTS, 1, 300, -300);
    Check.shelve(x, INTS, 2, 70000, -70000, 9, 9, 9);
    x.keep(FUSSY, 1, 4, 7);
    x.keep(SMELLY, 1, 5, 9);
    x.row(NO_ELEMENT, 0, 0);
    x.keep(FIGURE_0, 1, 0, 0);
    return x;
  }
}
