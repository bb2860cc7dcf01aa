/** Numbers that wrap around or are narrowed, and those too great for an int. */
public final class WrapTest {
  private static final int MIN = Integer.MIN_VALUE;
  private static final int MAX = Integer.MAX_VALUE;

  public static void main(String[] args) {
    lowestBits();
    copied();
    placesTold();
    contentTold();
    leastNumbers();
    seeds();
    fractions();
    Check.end();
  }

  /** What is put in, and what a row of bytes, shorts, ints keeps of it. */
  private static final int[][] PUT = {
    {0, 0, 0, 0}, {-1, -1, -1, -1}, {127, 127, 127, 127}, {128, -128, 128, 128}, {129, -127, 129, 129},
    {-128, -128, -128, -128}, {-129, 127, -129, -129}, {255, -1, 255, 255}, {256, 0, 256, 256},
    {-256, 0, -256, -256}, {257, 1, 257, 257}, {32767, -1, 32767, 32767}, {32768, 0, -32768, 32768},
    {32769, 1, -32767, 32769}, {-32768, 0, -32768, -32768}, {-32769, -1, 32767, -32769}, {65535, -1, -1, 65535},
    {65536, 0, 0, 65536}, {70000, 112, 4464, 70000}, {-70000, -112, -4464, -70000},
    {MAX, -1, -1, MAX}, {MIN, 0, 0, MIN}, {MIN + 1, 1, 1, MIN + 1}, {MIN + 128, -128, 128, MIN + 128},
    {MIN + 32768, 0, -32768, MIN + 32768}};

  private static void lowestBits() {
    for (int sort = 0; sort <= 2; sort++) {
      TwoToALocker x = new TwoToALocker();
      x.row(0, sort, PUT.length);
      for (int i = 0; i < PUT.length; i++) {
        Face.due(x, 0, "put", 0, i, PUT[i][0]);
        Face.due(x, PUT[i][sort + 1], "element", 0, i);
      }
      for (int i = 0; i < PUT.length; i++) {
        Face.due(x, PUT[i][sort + 1], "element", 0, i);
      }
    }
  }

  private static void copied() {
    for (int sort = 0; sort <= 2; sort++) {
      TwoToALocker x = new TwoToALocker();
      Check.shelve(x, 0, sort, MIN, MAX, -1, 128, 32768);
      x.row(1, sort, 5);
      Face.due(x, 5, "copy", 0, 0, 1, 0, 5);
      for (int i = 0; i < 5; i++) {
        Face.due(x, Face.call(x, "element", 0, i), "element", 1, i);
      }
      for (int i : new int[] {0, 1, 5}) {
        for (int n : new int[] {MAX, MAX - 1, MAX - i + 1, MIN, MIN + 1, MIN - i}) {
          Face.due(x, -13, "copy", 0, i, 1, 0, n);
          Face.due(x, -13, "copy", 0, 0, 1, i, n);
          Face.due(x, -13, "copy", 0, n, 1, i, 1);
          Face.due(x, -13, "copy", 0, i, 1, n, 0);
        }
      }
    }
  }

  /** A place told as 256 or 65536 more is that place in a row that keeps no such bits, and none in another. */
  private static void placesTold() {
    int[] more = {256, 65536, -256, -65536, MIN};
    int[] greatestSort = {0, 1, 0, 1, 1};
    for (int i = 0; i < more.length; i++) {
      for (int sort = 0; sort <= 2; sort++) {
        TwoToALocker x = Check.school("p000;p000;l00;l00;m00;");
        boolean narrowed = sort <= greatestSort[i];
        Check.shelve(x, 0, sort, more[i], 9);
        Face.due(x, narrowed ? -4 : 0, "forged", 0);
        Face.due(x, narrowed ? 0 : -13, "june", 0, 0);
        Check.shelve(x, 0, sort, 0, 9 + more[i]);
        Face.due(x, narrowed ? -4 : 1, "forged", 0);
        Face.due(x, narrowed ? 0 : -13, "june", 0, 0);
        Check.shelve(x, 0, sort, 9, more[i]);
        Face.due(x, narrowed ? 3 : -13, "june", 0, 0);
        Face.due(x, narrowed ? 1 : -13, "june", 0, 1);
        Face.due(x, narrowed ? 1 : -13, "june", 0, 2);
      }
    }
    for (int sort = 0; sort <= 2; sort++) {
      TwoToALocker x = Check.school("p000;p000;l00;l00;m00;");
      for (int no : new int[] {MIN, MAX, -1, 2, 8, 10, 128, 32768}) {
        Check.shelve(x, 0, sort, 0, no);
        Face.due(x, no == MIN && sort < 2 || no == 32768 && sort == 0 ? -4 : 1, "forged", 0);
      }
    }
  }

  /** All content is told so, if the row can hold it. */
  private static void contentTold() {
    int[] more = {256, 65536, MIN};
    for (int i = 0; i < more.length; i++) {
      for (int sort = 0; sort <= 2; sort++) {
        TwoToALocker x = Check.school("p000;p000;l00;l00;m00;");
        boolean narrowed = sort <= (i == 0 ? 0 : 1);
        Check.shelve(x, 0, sort, -8 + more[i]);
        Face.due(x, narrowed ? -4 : 0, "judge", 0);
      }
    }
    // eight in none are at -160, which no byte holds
    TwoToALocker y = Check.school("p000;".repeat(8));
    for (int sort = 0; sort <= 2; sort++) {
      Check.shelve(y, 0, sort, -160);
      Face.due(y, sort == 0 ? 0 : -4, "judge", 0);
      Check.shelve(y, 0, sort, 96);
      Face.due(y, 0, "judge", 0);
    }
  }

  /** The least number of just the row's own sort is skipped, also where all content is that. */
  private static void leastNumbers() {
    int[] put = {-128, 128, -32768, 32768, MIN, MAX};
    int[][] skips = {{1, 1, 0, 0, 0, 0}, {0, 0, 1, 1, 0, 0}, {0, 0, 0, 0, 1, 0}};
    for (int sort = 0; sort <= 2; sort++) {
      TwoToALocker x = Check.school("p000;");
      for (int i = 0; i < put.length; i++) {
        Check.shelve(x, 0, sort, put[i], -20);
        Face.due(x, skips[sort][i] == 1 ? 1 : 0, "judge", 0);
        Check.shelve(x, 0, sort, put[i], put[i]);
        Face.due(x, skips[sort][i] == 1 ? -4 : 0, "judge", 0);
        Check.shelve(x, 0, sort, -20, put[i], put[i]);
        Face.due(x, skips[sort][i] == 1 ? -4 : 1, "judge", 0);
      }
      TwoToALocker y = Check.school("p600;p690;p000;p000;p000;p000;p000;p000;l40;m00;m10;");
      Face.due(y, -128, "all");
      Check.shelve(y, 0, sort, -128);
      Face.due(y, -4, "judge", 0);
      Check.shelve(y, 0, sort, -127);
      Face.due(y, 0, "judge", 0);
      Check.shelve(y, 0, sort, -128, -128);
      Face.due(y, sort == 0 ? -4 : 1, "judge", 0);
    }
  }

  /** Seeds wrap around as ints do; the numbers were worked out by a program of its own, in another language. */
  private static void seeds() {
    TwoToALocker x = Check.school("p020;p361;p745;p112;p511;p210;l00;l01;l70;l01;m03;m10;m22;m31;m40;m53;");
    int[] z = {0, 1, -1, MAX, MIN};
    int[] content = {898, 871, 947, 947, 898};
    int[] clashes = {84, 92, 102, 102, 84};
    for (int i = 0; i < z.length; i++) {
      Face.due(x, content[i], "terms", 20, z[i], 0);
      Face.due(x, clashes[i], "terms", 20, z[i], 1);
    }
    // two that are drawn alike change nothing, two that are not change always: of two pupils just those
    TwoToALocker two = Check.school("p050;p350;l00;l01;m00;m11;");
    for (int seed : new int[] {MIN, -65536, -1, 0, 1, 65535, 65536, 123456789, MAX}) {
      Face.due(two, contentOfTerm(seed), "terms", 1, seed, 0);
    }
  }

  /** All content of two apart, behind a term of ten days: 24 as they sit, 19 if they are changed. */
  private static int contentOfTerm(int seed) {
    long z = seed & 0xffffffffL;
    boolean changed = false;
    for (int day = 0; day < 10; day++) {
      long[] drawn = new long[2];
      for (int i = 0; i < 2; i++) {
        z = (z * 1103515245L + 12345L) & 0xffffffffL;
        drawn[i] = (z & 0x7fffffffL) >> 16 & 1;
      }
      changed ^= drawn[0] != drawn[1];
    }
    return changed ? 24 - 5 : 24;
  }

  /** All fractions there are, in least terms; the greatest are no ints. */
  private static void fractions() {
    TwoToALocker x = Check.school("l00;l00;l00;k1;k2;k2;");
    for (int n = 1; n <= 4; n++) {
      for (int t = 2; t <= 20; t++) {
        long all = 1;
        long kept = 1;
        for (int i = 0; i < n; i++) {
          all *= t;
          kept *= t - 1;
        }
        Face.due(x, (all - kept) * (all - kept), "gone", 0, t, n, 0);
        Face.due(x, all * all, "gone", 0, t, n, 1);
        Face.due(x, all - kept, "gone", 1, t, n, 0);
        Face.due(x, all, "gone", 1, t, n, 1);
        Face.due(x, 1, "gone", 2, t, n, 0);
        Face.due(x, 1, "gone", 2, t, n, 1);
        Check.due("least terms of 1 in " + t, divisor(all * all, (all - kept) * (all - kept)), 1);
      }
    }
    Face.due(x, 25600000000L, "gone", 0, 20, 4, 1);
    Face.due(x, 880843041L, "gone", 0, 20, 4, 0);
  }

  private static long divisor(long a, long b) {
    return b == 0 ? a : divisor(b, a % b);
  }
}
