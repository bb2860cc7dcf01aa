/** What is borne at just 0, what is just as good, what is cut, and of several the first: the sentences of parts I and II. */
public final class EdgesTest {
  /** Six changes, one behind the other; worked out by a program of its own, in another language. */
  private static final String SIX_CHANGES =
      "p020;p361;p745;p112;p511;p210;l00;l01;l70;l01;m03;m10;m22;m31;m40;m53;";
  private static final int[] CONTENT_OF_SIX = {37, 42, 40, 43, 44, 59, 64};

  public static void main(String[] args) {
    bearing();
    trouble();
    content();
    eachTwo();
    ratherThanNobody();
    firstOfTwos();
    placedInNone();
    chain();
    list();
    alone();
    toldFromAlone();
    hours();
    dents();
    turns();
    Check.end();
  }

  /** One of each kind with figure 9 bears, in that order, whom the text tells. */
  private static void borneBy9(String whom, int... want) {
    for (int kind = 0; kind < 8; kind++) {
      Check.due("kind " + kind + " bears " + whom, Check.school("p" + kind + "90;" + whom).bears(0, 1), want[kind]);
    }
  }

  private static void bearing() {
    // without damp: 12, 4, 3
    borneBy9("p090;", 12, 12, 12, 14, 6, 12, 9, 15);
    borneBy9("p010;", 4, 4, 4, 6, 2, 4, 1, 7);
    borneBy9("p000;", 3, 3, 3, 5, 1, 3, 0, 6);
    // with damp 3: a tidy one's is 1, 0, and 0 where it would be below
    borneBy9("p140;", 4, 7, 1, 6, 0, 7, 0, 7);
    borneBy9("p130;", 3, 6, 0, 5, 0, 6, 0, 6);
    borneBy9("p120;", 2, 5, 0, 4, 0, 5, 0, 5);
    // with damp 6: a pupil's is 1, 0, and 0 where it would be below, for those under it, too
    borneBy9("p540;", 1, 7, 0, 3, 0, 7, 0, 4);
    borneBy9("p530;", 0, 6, 0, 2, 0, 6, 0, 3);
    borneBy9("p520;", 0, 6, 0, 2, 0, 6, 0, 3);
    borneBy9("p500;", 0, 6, 0, 2, 0, 6, 0, 3);
    // half of a tidy one's, cut: of 5 and 7; three less, 0 at least: of 2, 3, 4
    borneBy9("p190;", 9, 12, 6, 11, 3, 12, 3, 12);
    borneBy9("p180;", 8, 11, 5, 10, 2, 11, 2, 11);
    borneBy9("p170;", 7, 10, 4, 9, 2, 10, 1, 10);
    borneBy9("p160;", 6, 9, 3, 8, 1, 9, 0, 9);
    borneBy9("p150;", 5, 8, 2, 7, 1, 8, 0, 8);
    borneBy9("p590;", 6, 12, 0, 8, 0, 12, 0, 9);
  }

  private static void trouble() {
    TwoToALocker x = Check.school("p000;p300;p700;p400;l00;l01;l90;l91;");
    int[][] want = {{0, 2, 9, 11}, {3, 0, 12, 9}, {3, 0, 12, 9}, {0, 2, 9, 11}};
    for (int p = 0; p < 4; p++) {
      for (int l = 0; l < 4; l++) {
        Face.due(x, want[p][l], "trouble", p, l);
      }
    }
  }

  private static void content() {
    TwoToALocker x = Check.school("p600;p690;p300;p090;l91;l90;m00;m10;m21;");
    Face.due(x, -11, "content", 0);
    Face.due(x, -11, "content", 1);
    Face.due(x, 0, "content", 2);
    Face.due(x, -20, "content", 3);
    x.moves(3, 1);
    Face.due(x, 3 + 2 - 12, "content", 2);
    Face.due(x, 3 - 9, "content", 3);
    x.moves(0, 9);
    Face.due(x, 1, "content", 1);
    Face.due(x, -20, "content", 0);
    x.moves(1, 9);
    Face.due(x, -20, "content", 1);
  }

  /** Each of the 28 twos of eight is, in its turn, the only one of its sort. */
  private static void eachTwo() {
    for (int a = 0; a < 8; a++) {
      for (int b = a + 1; b < 8; b++) {
        onlyClash(a, b);
        onlyRather(a, b);
        onlyChange(a, b);
        onlyJune(a, b);
      }
    }
  }

  private static String eight(int a, int b, String ofA, String ofB, String others) {
    StringBuilder text = new StringBuilder();
    for (int p = 0; p < 8; p++) {
      text.append(p == a ? ofA : p == b ? ofB : others);
    }
    return text.toString();
  }

  private static void onlyClash(int a, int b) {
    TwoToALocker x = Check.school("p000;".repeat(8) + "l00;l00;m" + b + "1;m" + a + "1;");
    Face.due(x, 1, "clashes", 0);
    Face.due(x, 10 * a + b, "clashes", 1);
    TwoToALocker y = Check.school(eight(a, b, "p001;", "p000;", "p001;") + "l00;m" + b + "0;m" + a + "0;");
    Face.due(y, 0, "clashes", 0);
    Face.due(y, -4, "clashes", 1);
  }

  /** Smelly ones sit with their like; tidy ones, in none, do not bear them. */
  private static void onlyRather(int a, int b) {
    TwoToALocker x = Check.school(eight(a, b, "p200;", "p200;", "p500;") + "l00;l00;l00;");
    int seated = 0;
    for (int p = 0; p < 8; p++) {
      if (p != a && p != b) {
        x.moves(p, seated / 2);
        seated++;
      }
    }
    Face.due(x, 1, "rather", 0);
    Face.due(x, 10 * a + b, "rather", 1);
  }

  /** The tall one gains above, the other below; those in none gain, but nobody would change with them. */
  private static void onlyChange(int a, int b) {
    TwoToALocker x = Check.school(eight(a, b, "p300;", "p000;", "p000;") + "l00;l01;m" + a + "0;m" + b + "1;");
    Face.due(x, 9 + 10 - 120, "all");
    Face.due(x, 1, "agreed");
    Face.due(x, 12 + 12 - 120, "agreedContent");
    Face.due(x, 9, "content", a);
    Face.due(x, 10, "content", b);
  }

  private static void onlyJune(int a, int b) {
    TwoToALocker x = Check.school("p000;".repeat(8) + "l00;l00;l00;l00;m00;m10;m21;m31;m42;m52;m63;m73;");
    x.row(0, 0, 8);
    for (int p = 0; p < 8; p++) {
      x.put(0, p, (p == a ? b : p == b ? a : p) / 2);
    }
    boolean mates = a / 2 == b / 2;
    Face.due(x, mates ? 0 : 1 << a | 1 << b, "june", 0, 0);
    Face.due(x, mates ? 0 : 1, "june", 0, 1);
    Face.due(x, mates ? -4 : 10 * a + b, "june", 0, 2);
  }

  /** Nobody, and being in none, are as good as a mate borne at 0; one borne at 1 is better. */
  private static void ratherThanNobody() {
    Face.due(Check.school("p600;p680;"), 1, "rather", 0);
    Face.due(Check.school("p600;p690;"), 0, "rather", 0);
    Face.due(Check.school("p600;p680;l00;l00;m00;m11;"), 1, "rather", 1);
    Face.due(Check.school("p600;p690;l00;l00;m00;m11;"), -4, "rather", 1);
    Face.due(Check.school("p600;p680;l00;m00;m10;"), 0, "rather", 0);
    // 2 is borne by 0 at 8 as the mate 1 is, or at 9, and bears 0 better than nobody
    Face.due(Check.school("p040;p000;p080;l00;m00;m10;"), 0, "rather", 0);
    Face.due(Check.school("p040;p000;p070;l00;m00;m10;"), 2, "rather", 1);
    Face.due(Check.school("p000;p080;p040;l00;m10;m20;"), 0, "rather", 0);
    Face.due(Check.school("p010;p080;p040;l00;m10;m20;"), 2, "rather", 1);
    // three loners of whom two bear one another at 1: alone with nobody they would rather; or at 0
    Face.due(Check.school("p600;p680;p500;"), 1, "rests", -1);
    Face.due(Check.school("p600;p690;p500;"), 3, "rests", -1);
  }

  private static void twos(TwoToALocker x, String name, int all, int... whom) {
    Face.due(x, all, name, -1);
    for (int p = 0; p < whom.length; p++) {
      Face.due(x, whom[p], name, p);
    }
    Face.due(x, all, name, -1);
  }

  private static void firstOfTwos() {
    twos(Check.school("p000;p080;p040;"), "best", 16, 2, -4, 0);
    twos(Check.school("p000;p080;p040;"), "rests", 2, 2, -4, 0);
    twos(Check.school("p040;p000;p080;"), "best", 16, 1, 0, -4);
    twos(Check.school("p040;p000;p080;"), "rests", 2, 1, 0, -4);
    twos(Check.school("p000;p040;p080;"), "best", 16, 1, 0, -4);
    // 02 with 13 is as good as 03 with 12, and better than 01 with 23
    twos(Check.school("p000;p090;p450;p450;"), "best", 22, 2, 3, 0, 1);
    // all three ways are alike
    twos(Check.school("p600;p600;p300;p300;"), "best", 46, 1, 0, 3, 2);
  }

  /** One in none is dearer by 20; a mate whom nobody bears is dearer by the trouble and by 12. */
  private static void placedInNone() {
    placed("p600;p690;l91;", -19, 0, 9);
    placed("p600;p690;l90;", -17, 0, 9);
    placed("p600;p690;l80;", -16, 0, 0);
    placed("p600;p690;l61;", -16, 0, 0);
    placed("p600;p690;l81;", -18, 0, 9);
    placed("p600;p690;l80;l80;", 8, 0, 1);
    placed("p050;p050;p050;l00;l00;", 36, 0, 0, 1);
    placed("p050;p050;l00;", 24, 0, 0);
    placed("p050;l91;l91;l90;", 3, 2);
    placed("p050;l30;l30;", 9, 0);
  }

  private static void placed(String text, int all, int... where) {
    TwoToALocker x = Check.school(text);
    Face.due(x, all, "placed");
    for (int p = 0; p < where.length; p++) {
      Face.due(x, where[p], "placedAt", p);
    }
  }

  private static void chain() {
    TwoToALocker x = Check.school(SIX_CHANGES);
    Face.due(x, 6, "agreed");
    Face.due(x, 64, "agreedContent");
    Face.due(x, 37, "all");
    for (int sort = 0; sort <= 2; sort++) {
      Check.shelve(x, 0, sort, CONTENT_OF_SIX);
      Face.due(x, -4, "judge", 0);
      for (int i = 0; i < CONTENT_OF_SIX.length; i++) {
        for (int off = -1; off <= 1; off += 2) {
          x.put(0, i, CONTENT_OF_SIX[i] + off);
          Face.due(x, i, "judge", 0);
        }
        x.put(0, i, CONTENT_OF_SIX[i]);
      }
      Check.shelve(x, 0, sort, 37, 42, 40, 43, 44, 59, 64, 64);
      Face.due(x, 7, "judge", 0);
    }
    TwoToALocker y = Check.school(SIX_CHANGES);
    Check.shelve(y, 0, 2, 37);
    Face.due(y, -4, "judge", 0);
    y.moves(0, 9);
    Face.due(y, 0, "judge", 0);
    y.moves(0, 3);
    Face.due(y, -4, "judge", 0);
    Face.due(y, 6, "agreed");
  }

  private static void list() {
    TwoToALocker x = Check.school("p050;p050;p050;p050;p050;l00;l00;");
    Face.due(x, 28, "list", 0);
    Face.due(x, 4, "list", 1);
    x.moves(4, 0);
    Face.due(x, 5, "list", 1);
    x.moves(0, 0);
    Face.due(x, 4, "list", 1);
    x.stands(3, 0);
    Face.due(x, 48 + 9, "list", 0);
    Face.due(x, 4, "list", 1);
    x.moves(4, 2);
    Face.due(x, 3, "list", 1);
    // it is of now, however the pupils and lockers of now came
    x.keep(0, 1, 0, 5);
    x.joins(0, 0);
    Face.due(x, 48 + 18, "list", 0);
    Face.due(x, 4, "list", 1);
    TwoToALocker y = new TwoToALocker();
    y.keep(0, 1, 3, 5);
    y.joins(0, 0);
    Face.due(y, -20, "list", 0);
    Face.due(y, 0, "list", 1);
    y.stands(4, 0);
    Face.due(y, 12 - 7, "list", 0);
    Face.due(y, 1, "list", 1);
  }

  private static void alone() {
    // giants bear one another at 15: alone it would be less
    TwoToALocker x = Check.school("p750;p750;p000;p000;l00;l00;l00;m00;m10;m21;");
    for (int q : new int[] {0, 1, 99}) {
      Face.due(x, 0, "alone", q);
    }
    Face.due(x, -4, "price", 1);
    x.changes(0, 3);
    // 3 bears the giant at 7, the giant 3 at 10: by 5 and by 2 more
    Face.due(x, 2, "alone", 1);
    Face.due(x, 1, "alone", 2);
    Face.due(x, 1, "alone", 4);
    Face.due(x, 0, "alone", 5);
    Face.due(x, 4, "price", 1);
    Face.due(x, 1, "price", 2);
    Face.due(x, -4, "price", 3);
  }

  /** Alone by the truth is 0: told otherwise, a mate borne at 1 is better, one borne at 0 is not. */
  private static void toldFromAlone() {
    Face.due(Check.school("p200;p500;p680;"), 0, "otherwise", 2);
    Face.due(Check.school("p200;p500;p690;"), -4, "otherwise", 2);
    Face.due(Check.school("p200;p500;p670;"), 0, "otherwise", 2);
  }

  private static void hours() {
    for (int hour = 0; hour <= 5; hour++) {
      TwoToALocker x = new TwoToALocker();
      x.keep(0, 1, 0, 0);
      for (int many = 1; many <= 8; many++) {
        x.joins(0, hour);
        Face.due(x, (many + 1) / 2, "hours", 0);
        Face.due(x, hour, "hours", 1);
      }
    }
    TwoToALocker y = Check.school("p005;p005;p004;");
    Face.due(y, 4, "hours", 1);
    y.keep(0, 1, 0, 0);
    y.joins(0, 5);
    Face.due(y, 5, "hours", 1);
    y.joins(0, 3);
    y.joins(0, 3);
    Face.due(y, 5, "hours", 1);
    y.joins(0, 3);
    Face.due(y, 3, "hours", 1);
  }

  private static void dents() {
    // rooms 3 and 10; each bears the other at 12 less 5, or 15 less 5
    TwoToALocker x = Check.school("p200;p750;p000;p000;l00;l00;m00;m10;m21;m31;");
    int[] v = {0, 1, 2, 4, 5, 12, 13, 998, 999};
    int[] byRoom = {0, 0, 0, 0, 1, 2, 3, 230, 230};
    for (int i = 0; i < v.length; i++) {
      Face.due(x, byRoom[i], "dent", 0, v[i], 1);
      Face.due(x, v[i] - byRoom[i], "dent", 1, v[i], 1);
      // of rooms alike the lesser one's part is cut; an odd one of two halves is the lesser one's
      for (int law = 0; law <= 2; law++) {
        Face.due(x, law == 1 ? v[i] / 2 : v[i] - v[i] / 2, "dent", 2, v[i], law);
        Face.due(x, law == 1 ? v[i] - v[i] / 2 : v[i] / 2, "dent", 3, v[i], law);
      }
      Face.due(x, v[i] - v[i] / 2, "dent", 0, v[i], 0);
      Face.due(x, v[i], "dent", 0, v[i], 2);
      Face.due(x, 0, "dent", 1, v[i], 2);
    }
    TwoToALocker turned = Check.school("p750;p200;l00;m00;m10;");
    for (int each : v) {
      Face.due(turned, each * 10 / 13, "dent", 0, each, 1);
      Face.due(turned, each - each * 10 / 13, "dent", 1, each, 1);
      Face.due(turned, 0, "dent", 0, each, 2);
      Face.due(turned, each, "dent", 1, each, 2);
    }
    // less by just 1: tall ones bear giants at 14, giants tall ones at 15
    TwoToALocker near = Check.school("p350;p750;p750;p350;l00;l00;m00;m10;m21;m31;");
    Face.due(near, 9, "dent", 0, 9, 2);
    Face.due(near, 0, "dent", 1, 9, 2);
    Face.due(near, 0, "dent", 2, 9, 2);
    Face.due(near, 9, "dent", 3, 9, 2);
  }

  private static void turns() {
    TwoToALocker x = Check.school("p000;".repeat(8) + "l00;l50;l50;l00;m72;m61;m52;m41;");
    Face.due(x, 4, "turn", 0);
    Face.due(x, 4, "turn", 1);
    x.moves(7, 0);
    x.moves(6, 3);
    Face.due(x, 6, "turn", 0);
    Face.due(x, 4, "turn", 1);
    x.moves(0, 0);
    Face.due(x, 0, "turn", 0);
    Face.due(x, 4, "turn", 1);
  }
}
