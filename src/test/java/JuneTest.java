import java.util.Arrays;

/** Promises 32 to 35: June, terms. */
public final class JuneTest {
  private static final String FOUR = "p000;p000;p000;p000;l00;l00;m00;m10;m21;";

  public static void main(String[] args) {
    june();
    forged();
    judge();
    terms();
    Check.end();
  }

  private static void june() {
    for (int sort = 0; sort <= 2; sort++) {
      explained(sort, new int[] {0, 0, 1, 9}, 0, 0, -4);
      explained(sort, new int[] {0, 1, 0, 9}, 6, 1, 12);
      explained(sort, new int[] {1, 0, 0, 9}, 5, 1, 2);
      explained(sort, new int[] {0, 0, 9, 1}, 12, 1, 23);
      explained(sort, new int[] {9, 0, 1, 0}, 9, 1, 3);
      explained(sort, new int[] {1, 1, 0, 9}, 7, 0, -4);
      explained(sort, new int[] {9, 0, 1, 9}, 1, 0, -4);
      explained(sort, new int[] {1, 9, 1, 9}, 3, 0, -4);
      explained(sort, new int[] {9, 9, 0, 0}, 15, 0, -4);
    }
    TwoToALocker x = Check.school(FOUR);
    notThere(x, 0, 0, 1);
    notThere(x, 0, 0, 1, 9, 9);
    notThere(x, 0, 0, 0, 9);
    notThere(x, 0, 0, 2, 9);
    notThere(x, 0, -1, 1, 9);
    Check.shelve(x, 0, 0, 0, 0, 1, 9);
    Check.due("range", x.june(0, 3), -1);
    Check.due("range", x.june(0, -1), -1);
    Check.due("no such shelf", x.june(8, 0), -1);
    Check.due("no such shelf", x.june(-1, 0), -1);
    Check.due("nothing, but range goes ahead", x.june(1, 3), -1);
    Check.due("nothing", x.june(1, 0), -11);
    x.keep(1, 1, 0, 0);
    Check.due("a kind", x.june(1, 0), -12);
    TwoToALocker nobody = new TwoToALocker();
    nobody.row(0, 0, 0);
    Check.due("nobody", nobody.june(0, 0), 0);
    Check.due("nobody", nobody.june(0, 1), 0);
    Check.due("nobody", nobody.june(0, 2), -4);
  }

  private static void explained(int sort, int[] told, int others, int many, int first) {
    TwoToALocker x = Check.school(FOUR);
    Check.shelve(x, 3, sort, told);
    Check.due("otherwise", x.june(3, 0), others);
    Check.due("how many", x.june(3, 1), many);
    Check.due("the first", x.june(3, 2), first);
    Check.due("nobody is moved by it", x.count(4), 8);
    Check.due("the row stays", x.element(3, 0), told[0]);
  }

  private static void notThere(TwoToALocker x, int... told) {
    Check.shelve(x, 0, 1, told);
    for (int what = 0; what <= 2; what++) {
      Check.due("june of " + Arrays.toString(told), x.june(0, what), -13);
    }
  }

  private static void forged() {
    forgedAt(-4);
    forgedAt(-4, 0);
    forgedAt(-4, 0, 0, 1, 1);
    forgedAt(-4, 9, 9, 9, 9);
    forgedAt(2, 0, 0, 0, 1);
    forgedAt(3, 1, 0, 1, 1);
    forgedAt(1, 0, 2, 0, 0);
    forgedAt(0, -1, 2);
    forgedAt(0, 10);
    forgedAt(0, 8);
    forgedAt(4, 9, 9, 9, 9, 9);
    forgedAt(4, 0, 0, 1, 1, 7);
    forgedAt(3, 0, 0, 1, 5, 9);
    TwoToALocker x = Check.school(FOUR);
    Check.due("no such shelf", x.forged(8), -1);
    Check.due("no such shelf", x.forged(-1), -1);
    Check.due("nothing", x.forged(0), -11);
    x.keep(0, 1, 0, 0);
    Check.due("a kind", x.forged(0), -12);
    TwoToALocker nobody = new TwoToALocker();
    Check.shelve(nobody, 0, 2, 9);
    Check.due("more numbers than pupils", nobody.forged(0), 0);
  }

  private static void forgedAt(int want, int... told) {
    for (int sort = 0; sort <= 2; sort++) {
      TwoToALocker x = Check.school(FOUR);
      Check.shelve(x, 5, sort, told);
      Check.due("forged of " + Arrays.toString(told), x.forged(5), want);
    }
  }

  private static void judge() {
    // content 12, then, behind the only change, 48
    String crossed = "p000;p091;p090;p001;l00;l00;m00;m10;m21;m31;";
    for (int sort = 0; sort <= 2; sort++) {
      int skip = new int[] {-128, -32768, Integer.MIN_VALUE}[sort];
      judged(crossed, sort, -4);
      judged(crossed, sort, -4, 12);
      judged(crossed, sort, -4, 12, 48);
      judged(crossed, sort, 0, 13, 48);
      judged(crossed, sort, 1, 12, 47);
      judged(crossed, sort, 0, 48);
      judged(crossed, sort, -4, skip, 48);
      judged(crossed, sort, -4, 12, skip);
      judged(crossed, sort, 2, 12, 48, 48);
      judged(crossed, sort, 2, skip, skip, 48);
      judged(crossed, sort, 3, 12, 48, skip, 0);
      judged(crossed, sort, -4, 12, 48, skip, skip);
      judged("p000;", sort, -4, -20);
      judged("p000;", sort, 1, -20, -20);
    }
    judged("p000;", 1, 0, -128);
    judged("p000;", 2, 0, -32768);
    int[] endless = new int[100];
    for (int i = 0; i < 100; i++) {
      endless[i] = 29 + i % 2;
    }
    judged(ChangesTest.ENDLESS, 0, -4, Arrays.copyOf(endless, 61));
    judged(ChangesTest.ENDLESS, 0, 61, Arrays.copyOf(endless, 62));
    judged(ChangesTest.ENDLESS, 2, 61, endless);
    endless[60] = 30;
    judged(ChangesTest.ENDLESS, 1, 60, endless);
    TwoToALocker x = Check.school(crossed);
    Check.shelve(x, 0, 2, 12, 48);
    Check.due("judge", x.judge(0), -4);
    Check.due("nobody is moved by it", x.all(), 12);
    Check.due("no such shelf", x.judge(8), -1);
    Check.due("no such shelf", x.judge(-1), -1);
    Check.due("nothing", x.judge(1), -11);
    x.keep(1, 1, 0, 0);
    Check.due("a kind", x.judge(1), -12);
  }

  private static void judged(String text, int sort, int want, int... told) {
    TwoToALocker x = Check.school(text);
    Check.shelve(x, 6, sort, told);
    Check.due("judge of " + Arrays.toString(told), x.judge(6), want);
  }

  private static void terms() {
    TwoToALocker x = Check.school("p000;p040;p091;p021;l10;l50;m00;m10;m21;");
    // worked out by a program of its own, in another language
    int[][] want = {
      {1, 0, 1, 10}, {1, 1, 1, 2}, {3, -7, -1, 17}, {20, 2147483647, -68, 76}, {2, -2147483648, 2, 14}};
    for (int[] one : want) {
      Check.due("content of terms", x.terms(one[0], one[1], 0), one[2]);
      Check.due("clashes of terms", x.terms(one[0], one[1], 1), one[3]);
    }
    Check.due("nobody is moved by it", x.count(4), 8);
    Check.due("terms", x.terms(0, 1, 0), 1000000001);
    Check.due("terms", x.terms(21, 1, 0), 1000000001);
    Check.due("range", x.terms(1, 1, 2), 1000000001);
    Check.due("range", x.terms(1, 1, -1), 1000000001);
    TwoToALocker two = Check.school("p000;p300;l10;m00;");
    Check.due("just two", two.terms(3, 5, 0), -33);
    Check.due("just two", two.terms(4, 8, 0), -36);
    Check.due("just two", two.terms(4, 8, 1), 0);
    TwoToALocker one = Check.school("p000;");
    Check.due("fewer than two", one.terms(1, 1, 0), 1000000003);
    Check.due("range goes ahead", one.terms(21, 1, 0), 1000000001);
    Check.due("range goes ahead", one.terms(1, 1, 2), 1000000001);
  }
}
