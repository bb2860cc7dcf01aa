/** Of each number of each call: the least and the greatest that are let in, and what is outside. */
public final class RangesTest {
  private static final long ABOVE = 1000000001L;
  /** Kinds 0, 1, 4, 7; 3 is in none; three lockers, one of them empty. */
  private static final String SCHOOL = "p050;p151;p420;p790;l10;l21;l90;m00;m10;m21;k1;n2;";
  /** No bound above: all numbers from the least on are let in. */
  private static final int NO_END = Integer.MAX_VALUE;

  private static final int NOTHING = 0;
  private static final int KIND = 1;
  private static final int PLACES = 2;
  private static final int TEXT = 3;

  public static void main(String[] args) {
    toldCalls();
    askedOfPupils();
    askedOfAll();
    keysAndJune();
    shelves();
    Check.end();
  }

  private static void toldCalls() {
    range("school", TEXT, 0, 0, 7, -1, 0);
    range("pupil", NOTHING, 0, 0, 3, -1, 0, 0);
    range("pupil", NOTHING, 1, 0, 6, -1, 0, 0);
    range("locker", NOTHING, 0, 0, 2, -1, 0, 0);
    range("locker", NOTHING, 1, 0, 3, -1, 0, 0);
    range("joins", KIND, 0, 0, 7, -1, 0, 0);
    range("joins", KIND, 1, 0, 5, -1, 0, 0);
    range("stands", NOTHING, 0, 0, 9, -1, 0, 0);
    range("stands", NOTHING, 1, 0, 1, -1, 0, 0);
    range("moves", NOTHING, 0, 0, 3, -1, 0, 9);
    range("changes", NOTHING, 0, 0, 2, -1, 0, 3);
    range("changes", NOTHING, 1, 1, 3, -1, 0, 3);
    range("loses", NOTHING, 0, 0, 2, -1, 0);
    range("makes", NOTHING, 0, 0, 2, -1, 0);
    placesOfMoves();
  }

  /** Lockers 0, 1, 2, and 9, are places; nothing between, and nothing outside. */
  private static void placesOfMoves() {
    for (int l : new int[] {0, 1, 2, 9}) {
      letIn("moves", prepared(NOTHING), -1, 2, l == 0 ? 9 : l);
    }
    for (int l : new int[] {-1, 3, 4, 5, 8, 10, 256, 65536, 256 + 9, Integer.MIN_VALUE, Integer.MAX_VALUE}) {
      refused("moves", NOTHING, -1, 2, l);
    }
  }

  private static void askedOfPupils() {
    range("bears", NOTHING, 0, 0, 2, -1, 0, 3);
    range("bears", NOTHING, 1, 1, 3, -1, 0, 3);
    range("trouble", NOTHING, 0, 0, 3, -1, 0, 0);
    range("trouble", NOTHING, 1, 0, 2, -1, 0, 0);
    refused("trouble", NOTHING, -1, 0, 9);
    range("content", NOTHING, 0, 0, 3, ABOVE, 0);
    range("best", NOTHING, 0, -1, 3, -1, 0);
    range("rests", NOTHING, 0, -1, 3, -1, 0);
    range("placedAt", NOTHING, 0, 0, 3, -1, 0);
    range("otherwise", NOTHING, 0, 0, 3, -1, 0);
    range("envy", NOTHING, 0, -1, 3, -1, 0);
  }

  private static void askedOfAll() {
    for (String name : new String[] {"clashes", "rather", "hours", "turn", "widowed"}) {
      range(name, NOTHING, 0, 0, 1, -1, 0);
    }
    range("list", NOTHING, 0, 0, 1, ABOVE, 0);
    range("alone", NOTHING, 0, 0, 99, -1, 0);
    range("price", NOTHING, 0, 1, NO_END, -1, 1);
    range("count", NOTHING, 0, 0, 5, -1, 0);
  }

  private static void keysAndJune() {
    range("gone", NOTHING, 0, 0, 2, ABOVE, 0, 2, 1, 0);
    range("gone", NOTHING, 1, 2, 20, ABOVE, 0, 2, 1, 0);
    range("gone", NOTHING, 2, 1, 4, ABOVE, 0, 2, 1, 0);
    range("gone", NOTHING, 3, 0, 1, ABOVE, 0, 2, 1, 0);
    range("dent", NOTHING, 0, 0, 3, -1, 0, 9, 0);
    range("dent", NOTHING, 1, 0, 999, -1, 0, 9, 0);
    range("dent", NOTHING, 2, 0, 2, -1, 0, 9, 0);
    range("june", PLACES, 0, 0, 7, -1, 0, 0);
    range("june", PLACES, 1, 0, 2, -1, 0, 0);
    range("forged", PLACES, 0, 0, 7, -1, 0);
    range("judge", PLACES, 0, 0, 7, -1, 0);
    range("terms", NOTHING, 0, 1, 20, ABOVE, 1, 7, 0);
    range("terms", NOTHING, 1, Integer.MIN_VALUE, NO_END, ABOVE, 1, 7, 0);
    range("terms", NOTHING, 2, 0, 1, ABOVE, 1, 7, 0);
  }

  private static void shelves() {
    range("keep", KIND, 0, 0, 7, -1, 0, 1, 0, 0);
    range("keep", KIND, 0, 0, 7, -1, 0, 0, 0, 0);
    range("keep", KIND, 1, 0, 1, -1, 0, 1, 0, 0);
    range("keep", KIND, 2, 0, 7, -1, 0, 1, 0, 0);
    range("keep", KIND, 3, 0, 9, -1, 0, 1, 0, 0);
    range("keep", KIND, 2, Integer.MIN_VALUE, NO_END, -1, 0, 0, 0, 0);
    range("keep", KIND, 3, Integer.MIN_VALUE, NO_END, -1, 0, 0, 0, 0);
    range("row", KIND, 0, 0, 7, -1, 0, 0, 1);
    range("row", KIND, 1, 0, 2, -1, 0, 0, 1);
    sizesOfRows();
    range("put", PLACES, 0, 0, 7, -1, 0, 0, 5);
    range("put", PLACES, 1, 0, 3, -13, 0, 0, 5);
    range("put", PLACES, 2, Integer.MIN_VALUE, NO_END, -13, 0, 0, 5);
    range("element", PLACES, 0, 0, 7, Face.THROWS_IAE, 0, 0);
    range("element", PLACES, 1, 0, 3, Face.THROWS_ISE, 0, 0);
    range("copy", PLACES, 0, 0, 7, -1, 0, 0, 1, 0, 4);
    range("copy", PLACES, 2, 0, 7, -1, 0, 0, 1, 0, 4);
    range("copy", PLACES, 1, 0, 3, -13, 0, 0, 1, 0, 1);
    range("copy", PLACES, 3, 0, 3, -13, 0, 0, 1, 0, 1);
    range("copy", PLACES, 1, 0, 4, -13, 0, 0, 1, 0, 0);
    range("copy", PLACES, 3, 0, 4, -13, 0, 0, 1, 0, 0);
    range("copy", PLACES, 4, 0, 4, -13, 0, 0, 1, 0, 0);
    range("copy", PLACES, 4, 0, 1, -13, 0, 3, 1, 0, 0);
    range("copy", PLACES, 4, 0, 1, -13, 0, 0, 1, 3, 0);
    range("cost", KIND, 0, 0, 7, -1, 0);
    range("toss", KIND, 0, 0, 7, -1, 0);
  }

  private static void sizesOfRows() {
    for (int n = 0; n <= 100; n++) {
      letIn("row", prepared(KIND), -1, 0, 0, n);
      letIn("row", prepared(KIND), -14, 0, 0, n);
    }
    for (int n : new int[] {101, 102, 256, 65536, Integer.MAX_VALUE}) {
      refused("row", KIND, -1, 0, 0, n);
    }
    for (int n : new int[] {-1, -2, -128, -256, Integer.MIN_VALUE}) {
      refused("row", KIND, -14, 0, 0, n);
    }
  }

  /** All from least to greatest is let in as that argument, the others being as told; what is outside is refused. */
  private static void range(String name, int shelf, int which, int least, int greatest, long refusal, int... told) {
    long last = greatest == NO_END ? least + 3L : greatest;
    for (long v = least; v <= last; v++) {
      letIn(name, prepared(shelf), refusal, with(told, which, (int) v));
    }
    letIn(name, prepared(shelf), refusal, with(told, which, greatest));
    for (long outside : new long[] {least - 1L, least - 256L, least - 65536L, Integer.MIN_VALUE}) {
      if (outside < least && outside >= Integer.MIN_VALUE) {
        refused(name, shelf, refusal, with(told, which, (int) outside));
      }
    }
    for (long outside : new long[] {greatest + 1L, least + 256L, least + 65536L, Integer.MAX_VALUE}) {
      if (outside > greatest && outside <= Integer.MAX_VALUE) {
        refused(name, shelf, refusal, with(told, which, (int) outside));
      }
    }
  }

  private static int[] with(int[] told, int which, int v) {
    int[] out = told.clone();
    out[which] = v;
    return out;
  }

  private static void letIn(String name, TwoToALocker x, long refusal, int... arguments) {
    long got = Face.call(x, name, arguments);
    boolean in = got != refusal && got != Face.THROWS_ANOTHER;
    Check.due(Face.text(name, arguments) + " is let in (" + got + ")", in ? 1 : 0, 1);
  }

  private static void refused(String name, int shelf, long refusal, int... arguments) {
    TwoToALocker x = prepared(shelf);
    String school = Face.school(x);
    String shelves = Face.shelves(x);
    Check.due(Face.text(name, arguments), Face.call(x, name, arguments), refusal);
    Check.due("the school behind " + Face.text(name, arguments), Face.school(x).equals(school) ? 1 : 0, 1);
    Check.due("the shelves behind " + Face.text(name, arguments), Face.shelves(x).equals(shelves) ? 1 : 0, 1);
  }

  private static TwoToALocker prepared(int shelf) {
    TwoToALocker x = Check.school(SCHOOL);
    for (int d = 0; d < 8; d++) {
      switch (shelf) {
        case KIND: x.keep(d, 1, 4, d + 1); break;
        case PLACES: Check.shelve(x, d, 0, 0, 0, 1, 9); break;
        case TEXT: Check.shelve(x, d, "l00;"); break;
        default: break;
      }
    }
    return x;
  }
}
