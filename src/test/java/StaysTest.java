/** What stays: behind each question all, behind what is told the shelves and the image, behind shelf calls the school. */
public final class StaysTest {
  private static final String[] SCHOOLS = {
    "p260;p150;p570;p120;l00;l00;m01;m10;m21;m30;",
    "p020;p361;p745;p112;p511;p210;l00;l01;l70;l01;m03;m10;m22;m31;m40;m53;",
    "p700;p792;p114;p582;l91;l30;l01;m00;m11;m20;m31;"};

  private static final int TEXT = 0;
  private static final int BAD_TEXT = 1;
  private static final int PLACES = 2;
  private static final int CONTENT = 3;
  private static final int KIND = 4;
  private static final int EMPTY = 5;
  private static final int MORE_BYTES = 6;

  public static void main(String[] args) {
    for (String school : SCHOOLS) {
      asked(school);
      told(school);
      shelved(school);
    }
    imagesOfImages();
    Check.end();
  }

  private static TwoToALocker prepared(String school) {
    TwoToALocker x = Check.school(school);
    Check.shelve(x, TEXT, "k0;x01;n0;");
    Check.shelve(x, BAD_TEXT, "k0;x01;p000;l00;m99;");
    Check.shelve(x, PLACES, 1, x.count(0) == 4 ? new int[] {1, 0, 1, 9} : new int[] {9, 9, 1, 0, 0, 9});
    Check.shelve(x, CONTENT, 2, x.all(), x.agreedContent(), Integer.MIN_VALUE, 7);
    x.keep(KIND, 1, 4, 7);
    Check.shelve(x, MORE_BYTES, 0, 5, 6, 7);
    x.image();
    x.moves(0, 9);
    x.loses(1);
    x.makes(0);
    return x;
  }

  private static void asked(String school) {
    for (String name : new String[] {"placed", "agreed", "agreedContent", "all"}) {
      stays(school, name);
    }
    for (int p = -1; p < 4; p++) {
      for (String name : new String[] {"content", "best", "rests", "placedAt", "otherwise", "envy", "price", "alone"}) {
        stays(school, name, p);
      }
    }
    for (int what = 0; what <= 1; what++) {
      for (String name : new String[] {"clashes", "rather", "list", "hours", "turn", "widowed", "count"}) {
        stays(school, name, what);
      }
      stays(school, "pupil", 1, what);
      stays(school, "locker", 1, what);
      stays(school, "bears", what, 2);
      stays(school, "trouble", what, 0);
      stays(school, "gone", what, 20, 4, what);
      stays(school, "terms", 3, 77, what);
    }
    for (int law = 0; law <= 2; law++) {
      stays(school, "dent", 2, 33, law);
      stays(school, "june", PLACES, law);
    }
    stays(school, "forged", PLACES);
    stays(school, "forged", TEXT);
    stays(school, "judge", CONTENT);
    stays(school, "judge", TEXT);
    stays(school, "school", BAD_TEXT);
    stays(school, "element", PLACES, 1);
    stays(school, "cost", KIND);
    stays(school, "toss", KIND);
    stays(school, "copy", CONTENT, 1, CONTENT, 1, 2);
    stays(school, "copy", PLACES, 4, PLACES, 0, 0);
    stays(school, "keep", EMPTY, 0, 7, 7);
  }

  /** Behind that call all is as it was, and it answers the same once more. */
  private static void stays(String school, String name, int... arguments) {
    TwoToALocker x = prepared(school);
    String seen = Face.school(x);
    String shelves = Face.shelves(x);
    String call = Face.text(name, arguments);
    long got = Face.call(x, name, arguments);
    Check.due("the school behind " + call, Face.school(x).equals(seen) ? 1 : 0, 1);
    Check.due("the shelves behind " + call, Face.shelves(x).equals(shelves) ? 1 : 0, 1);
    Check.due(call + " once more", Face.call(x, name, arguments), got);
    imageIsTheFirst(x, school, call);
  }

  private static void imageIsTheFirst(TwoToALocker x, String school, String call) {
    Check.due("pence of the image", x.restore(), 0);
    boolean alike = Face.school(x).equals(Face.school(Check.school(school)));
    Check.due("the image behind " + call, alike ? 1 : 0, 1);
  }

  private static void told(String school) {
    tells(school, "school", TEXT);
    tells(school, "joins", KIND, 5);
    tells(school, "stands", 9, 1);
    tells(school, "moves", 1, 9);
    tells(school, "changes", 0, 1);
    tells(school, "loses", 0);
    tells(school, "makes", 1);
  }

  /** Behind that call the school is another; the shelves and the image are as they were. */
  private static void tells(String school, String name, int... arguments) {
    TwoToALocker x = prepared(school);
    String seen = Face.school(x);
    String shelves = Face.shelves(x);
    String call = Face.text(name, arguments);
    Check.due(call + " is let in", Face.call(x, name, arguments) >= 0 ? 1 : 0, 1);
    Check.due("the school behind " + call, Face.school(x).equals(seen) ? 1 : 0, 0);
    Check.due("the shelves behind " + call, Face.shelves(x).equals(shelves) ? 1 : 0, 1);
    imageIsTheFirst(x, school, call);
  }

  private static void shelved(String school) {
    for (int d = 0; d < 8; d++) {
      shelves(school, d, "keep", d, 0, 0, 0);
      shelves(school, d, "keep", d, 1, 3, 3);
      shelves(school, d, "row", d, 1, 2);
      shelves(school, d, "row", d, 0, 0);
    }
    shelves(school, PLACES, "put", PLACES, 0, 77);
    shelves(school, MORE_BYTES, "copy", TEXT, 0, MORE_BYTES, 1, 2);
    shelves(school, TEXT, "copy", MORE_BYTES, 0, TEXT, 6, 3);
    shelves(school, TEXT, "copy", TEXT, 0, TEXT, 3, 3);
  }

  /** Behind that call the school, the image and the other shelves are as they were. */
  private static void shelves(String school, int changed, String name, int... arguments) {
    TwoToALocker x = prepared(school);
    String seen = Face.school(x);
    String[] shelves = new String[8];
    for (int d = 0; d < 8; d++) {
      shelves[d] = Face.shelf(x, d);
    }
    String call = Face.text(name, arguments);
    Check.due(call + " is let in", Face.call(x, name, arguments) >= 0 ? 1 : 0, 1);
    Check.due("the school behind " + call, Face.school(x).equals(seen) ? 1 : 0, 1);
    for (int d = 0; d < 8; d++) {
      if (d != changed) {
        Check.due("shelf " + d + " behind " + call, Face.shelf(x, d).equals(shelves[d]) ? 1 : 0, 1);
      }
    }
    imageIsTheFirst(x, school, call);
  }

  /** An image holds no image: what is restored can be restored again, until another one is taken. */
  private static void imagesOfImages() {
    TwoToALocker x = new TwoToALocker();
    Face.due(x, -3, "restore");
    Face.due(x, 0, "image");
    Face.due(x, 0, "restore");
    Check.shelve(x, 0, "p755;l91;m00;n0;k0;");
    Face.due(x, 5, "school", 0);
    String one = Face.school(x);
    Face.due(x, 5, "image");
    Face.due(x, 5, "school", 0);
    Face.due(x, 10, "count", 2);
    Face.due(x, 5, "restore");
    Check.due("as it was", Face.school(x).equals(one) ? 1 : 0, 1);
    x.makes(0);
    x.moves(0, 9);
    x.keep(0, 0, 0, 0);
    Face.due(x, 5, "restore");
    Check.due("as it was, again", Face.school(x).equals(one) ? 1 : 0, 1);
    Face.due(x, -11, "cost", 0);
    // a smaller school behind a fuller one, then filled again: nothing of the fuller one is left
    x.keep(0, 1, 6, 0);
    Face.due(x, 1, "joins", 0, 1);
    Face.due(x, 0, "moves", 0, 9);
    Face.due(x, 9, "moves", 1, 0);
    Face.due(x, 5, "restore");
    x.keep(0, 1, 3, 9);
    Face.due(x, 1, "joins", 0, 2);
    Face.due(x, 9, "pupil", 1, 3);
    Face.due(x, 3, "pupil", 1, 0);
    Face.due(x, 2, "pupil", 1, 2);
    Face.due(x, 12 - 4 + 2, "bears", 1, 0);
    Face.due(x, 12 - 4 + 3, "bears", 0, 1);
    Face.due(x, 1, "stands", 0, 0);
    Face.due(x, 2, "locker", 1, 2);
  }
}
