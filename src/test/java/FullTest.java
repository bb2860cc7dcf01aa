/** All full: eight pupils, five lockers, two in a locker, a row of length 100, the last of 512 calls. */
public final class FullTest {
  /** One of each kind; two in each of the first four lockers. */
  private static final String EACH_KIND =
      "p050;p151;p252;p353;p454;p555;p650;p751;l10;l21;l30;l41;l50;m00;m10;m21;m31;m42;m52;m63;m73;";
  private static final String UNLIKE =
      "p700;p792;p114;p582;p391;p201;p462;p620;l91;l30;l01;l70;l20;m00;m11;m20;m33;m43;m52;m62;m74;";
  private static final String ALIKE = "p050;p050;p050;p050;p050;p050;p050;p050;";
  private static final String FOUR_TWOS = "l00;l00;l00;l00;l00;m00;m10;m21;m31;m42;m52;m63;m73;";

  public static void main(String[] args) {
    eachKind();
    unlike();
    alike();
    together();
    sevenAlike();
    nobodyMore();
    oneInNone();
    fullLockers();
    longRows();
    manyCalls();
    Check.end();
  }

  /** Of each pupil what that call answers. */
  private static void each(TwoToALocker x, String name, int... want) {
    for (int p = 0; p < want.length; p++) {
      Face.due(x, want[p], name, p);
    }
    Face.due(x, name.equals("content") ? 1000000001L : -1, name, want.length);
  }

  // the numbers of these two were worked out by a program of its own, in another language

  private static void eachKind() {
    TwoToALocker x = Check.school(EACH_KIND);
    Face.due(x, 59, "all");
    each(x, "content", 8, 11, 8, 12, -3, 9, 3, 11);
    Face.due(x, 92, "best", -1);
    each(x, "best", 2, 5, 0, 4, 3, 1, 7, 6);
    Face.due(x, 15, "rests", -1);
    each(x, "rests", 2, 5, 0, 4, 3, 1, 7, 6);
    Face.due(x, 78, "placed");
    each(x, "placedAt", 0, 2, 0, 1, 3, 2, 4, 1);
    Face.due(x, 1, "agreed");
    Face.due(x, 68, "agreedContent");
    each(x, "otherwise", -4, -4, -4, -4, -4, -4, -4, -4);
    each(x, "envy", 1, 0, 2, 0, 6, 2, 4, 2);
    Face.due(x, 17, "envy", -1);
    termsOf(x, 1107, 84, 1101, 44, 1098, 52);
    Face.due(x, 16, "widowed", 1);
    Face.due(x, 0, "widowed", 0);
    Face.due(x, 0, "count", 4);
    Face.due(x, 10, "count", 3);
    Face.due(x, 4 + 6 + 3 + 5 + 3 + 6 + 3 + 10, "count", 5);
  }

  private static void unlike() {
    TwoToALocker x = Check.school(UNLIKE);
    Face.due(x, 24, "all");
    each(x, "content", 2, 6, 0, 4, -3, 4, 1, 10);
    Face.due(x, 79, "best", -1);
    each(x, "best", 5, 4, 7, 6, 1, 0, 3, 2);
    Face.due(x, 1, "rests", -1);
    each(x, "rests", 5, 4, 3, 2, 1, 0, 7, 6);
    Face.due(x, 62, "placed");
    each(x, "placedAt", 1, 2, 4, 0, 2, 1, 3, 4);
    Face.due(x, 1, "agreed");
    Face.due(x, 36, "agreedContent");
    each(x, "otherwise", -4, -4, -4, -4, -4, -4, 0, 0);
    each(x, "envy", 4, 2, 4, 3, 4, 2, 2, 0);
    Face.due(x, 21, "envy", -1);
    termsOf(x, 284, 96, 223, 80, 340, 93);
  }

  /** Twenty terms with seeds 0, 1, -1: content and clashes of each; a seed's sign does not matter. */
  private static void termsOf(TwoToALocker x, int... want) {
    for (int i = 0; i < 6; i++) {
      int z = i < 2 ? 0 : i < 4 ? 1 : -1;
      Face.due(x, want[i], "terms", 20, z, i % 2);
      Face.due(x, want[i], "terms", 20, z ^ Integer.MIN_VALUE, i % 2);
    }
  }

  private static void alike() {
    TwoToALocker x = Check.school(ALIKE);
    Face.due(x, 28, "rather", 0);
    Face.due(x, 1, "rather", 1);
    Face.due(x, 96, "best", -1);
    each(x, "best", 1, 0, 3, 2, 5, 4, 7, 6);
    Face.due(x, 105, "rests", -1);
    each(x, "rests", 1, 0, 3, 2, 5, 4, 7, 6);
    Face.due(x, 255, "count", 4);
    Face.due(x, -160, "placed");
    each(x, "placedAt", 9, 9, 9, 9, 9, 9, 9, 9);
    Face.due(x, 4, "hours", 0);
    Face.due(x, 0, "hours", 1);
    for (int l = 0; l < 5; l++) {
      x.stands(0, 0);
    }
    Face.due(x, 96, "placed");
    each(x, "placedAt", 0, 0, 1, 1, 2, 2, 3, 3);
    Face.due(x, 96, "list", 0);
    Face.due(x, 8, "list", 1);
    Face.due(x, 31, "widowed", 1);
    for (int sort = 0; sort <= 2; sort++) {
      Check.shelve(x, sort, sort, -160);
      Face.due(x, sort == 0 ? 0 : -4, "judge", sort);
      Check.shelve(x, sort, sort, 0, 0, 1, 1, 2, 2, 3, 3);
      Face.due(x, 255, "june", sort, 0);
      Face.due(x, 0, "june", sort, 1);
      Face.due(x, -4, "june", sort, 2);
      Face.due(x, -4, "forged", sort);
      Check.shelve(x, sort, sort, 9, 9, 9, 9, 9, 9, 9, 9, 9);
      Face.due(x, 8, "forged", sort);
    }
  }

  private static void together() {
    TwoToALocker x = Check.school(ALIKE + FOUR_TWOS);
    Face.due(x, 4, "clashes", 0);
    Face.due(x, 1, "clashes", 1);
    Face.due(x, 0, "rather", 0);
    x.changes(7, 0);
    Face.due(x, 4, "clashes", 0);
    Face.due(x, 6, "clashes", 1);
    Face.due(x, 96, "all");
    Face.due(x, 0, "agreed");
    Face.due(x, 0, "alone", 0);
    Face.due(x, -4, "price", 8);
    Face.due(x, 0, "turn", 0);
    Face.due(x, 0, "turn", 1);
    Check.shelve(x, 0, 0, 0, 0, 1, 1, 2, 2, 3, 3);
    Face.due(x, 129, "june", 0, 0);
    Face.due(x, 1, "june", 0, 1);
    Face.due(x, 7, "june", 0, 2);
    Check.shelve(x, 0, 0, 3, 0, 1, 1, 2, 3, 2, 0);
    Face.due(x, 96, "june", 0, 0);
    Face.due(x, 56, "june", 0, 2);
    Check.shelve(x, 0, 0, 3, 0, 1, 1, 2, 2, 0, 3);
    Face.due(x, 192, "june", 0, 0);
    Face.due(x, 67, "june", 0, 2);
    // all eight would pay up to 5 to be alone
    TwoToALocker y = Check.school("p000;p060;p000;p060;p000;p060;p000;p060;" + FOUR_TWOS);
    Face.due(y, 8, "alone", 5);
    Face.due(y, 0, "alone", 6);
    Face.due(y, 5, "price", 8);
    Face.due(y, -4, "price", 9);
  }

  private static void sevenAlike() {
    TwoToALocker x = Check.school("p050;p050;p050;p050;p050;p050;p050;l00;l00;l00;l00;l00;");
    Face.due(x, 72, "best", -1);
    each(x, "best", 1, 0, 3, 2, 5, 4, -4);
    Face.due(x, 105, "rests", -1);
    each(x, "rests", 1, 0, 3, 2, 5, 4, -4);
    Face.due(x, 84, "placed");
    each(x, "placedAt", 0, 0, 1, 1, 2, 2, 3);
    Face.due(x, 84, "list", 0);
  }

  private static void nobodyMore() {
    TwoToALocker x = Check.school(ALIKE + FOUR_TWOS);
    x.keep(0, 1, 7, 9);
    Face.due(x, -2, "joins", 0, 5);
    Face.due(x, -2, "stands", 9, 1);
    Face.due(x, 8, "count", 0);
    Face.due(x, 5, "count", 1);
    Face.due(x, -1, "pupil", 8, 0);
    Face.due(x, -1, "locker", 5, 0);
    x.image();
    x.restore();
    Face.due(x, -2, "joins", 0, 5);
    Face.due(x, -2, "stands", 9, 1);
  }

  /** Four lockers with seven in them: the eighth envies all seven, and has no room but with the one alone. */
  private static void oneInNone() {
    TwoToALocker x = Check.school(ALIKE + "l90;l91;l90;l91;m00;m10;m21;m31;m42;m52;m63;");
    Face.due(x, 7, "envy", 7);
    Face.due(x, 128, "count", 4);
    Face.due(x, 8, "widowed", 0);
    for (int l = 0; l < 3; l++) {
      Face.due(x, -3, "moves", 7, l);
    }
    Face.due(x, 9, "moves", 7, 3);
    for (int l = 0; l < 4; l++) {
      for (int p = 0; p < 8; p++) {
        Face.due(x, p / 2 == l ? l : -3, "moves", p, l);
      }
    }
    Face.due(x, 3, "moves", 6, 9);
    Face.due(x, 2, "moves", 5, 3);
    Face.due(x, -3, "moves", 6, 3);
    Face.due(x, 9, "moves", 6, 2);
  }

  private static void fullLockers() {
    int[] told = {0, 0, 1, 1, 2, 2, 3, 3};
    for (int i = 0; i < 8; i++) {
      for (int l = 0; l < 5; l++) {
        int[] other = told.clone();
        other[i] = l;
        TwoToALocker x = Check.school(EACH_KIND);
        Check.shelve(x, 0, 0, other);
        boolean stays = l == i / 2;
        int third = i < 2 * l + 2 ? 2 * l + 1 : i;
        Face.due(x, stays || l == 4 ? -4 : third, "forged", 0);
        Face.due(x, stays ? 0 : l == 4 ? 1 << i : -13, "june", 0, 0);
      }
    }
  }

  private static void longRows() {
    for (int sort = 0; sort <= 2; sort++) {
      TwoToALocker x = new TwoToALocker();
      Face.due(x, 0, "row", 0, sort, 100);
      Face.due(x, 0, "row", 7, sort, 100);
      for (int i = 0; i < 100; i++) {
        Face.due(x, 0, "element", 0, i);
        Face.due(x, 0, "put", 0, i, i + 1);
      }
      Face.due(x, -13, "put", 0, 100, 1);
      Face.due(x, Face.THROWS_ISE, "element", 0, 100);
      Face.due(x, -13, "copy", 0, 0, 7, 0, 101);
      Face.due(x, -13, "copy", 0, 1, 7, 0, 100);
      Face.due(x, -13, "copy", 0, 0, 7, 1, 100);
      Face.due(x, 0, "element", 7, 99);
      Face.due(x, 1, "copy", 0, 99, 7, 0, 1);
      Face.due(x, 100, "element", 7, 0);
      Face.due(x, 0, "copy", 0, 100, 7, 100, 0);
      Face.due(x, -13, "copy", 0, 101, 7, 0, 0);
      Face.due(x, 100, "copy", 0, 0, 7, 0, 100);
      Face.due(x, 100, "element", 7, 99);
      Face.due(x, 1, "element", 7, 0);
      Face.due(x, 99, "copy", 7, 0, 7, 1, 99);
      Face.due(x, 1, "element", 7, 1);
      Face.due(x, 99, "element", 7, 99);
      Face.due(x, 0, "forged", 7);
      Face.due(x, 0, "judge", 7);
      Face.due(x, -13, "june", 7, 0);
    }
  }

  /** What the 512th call answers is promised, too. */
  private static void manyCalls() {
    TwoToALocker x = new TwoToALocker();
    Face.due(x, 0, "stands", 0, 0);
    for (int call = 2; call <= 512; call++) {
      switch (call % 3) {
        case 2: Face.due(x, 1, "loses", 0); break;
        case 0: Face.due(x, 0, "loses", 0); break;
        default: Face.due(x, 5 * (call / 3), "makes", 0); break;
      }
    }
  }
}
