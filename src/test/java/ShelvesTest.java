/** Promises 40 to 46: shelves. */
public final class ShelvesTest {
  public static void main(String[] args) {
    keep();
    row();
    put();
    element();
    copy();
    copyRefused();
    cost();
    toss();
    Check.end();
  }

  private static void keep() {
    TwoToALocker x = new TwoToALocker();
    Check.due("a kind", x.keep(0, 1, 7, 9), 0);
    Check.due("it is there", x.cost(0), 13);
    Check.due("no such kind", x.keep(0, 1, 8, 0), -1);
    Check.due("no such kind", x.keep(0, 1, -1, 0), -1);
    Check.due("no such figure", x.keep(0, 1, 0, 10), -1);
    Check.due("no such figure", x.keep(0, 1, 0, -1), -1);
    Check.due("no such what", x.keep(0, 2, 0, 0), -1);
    Check.due("no such what", x.keep(0, -1, 0, 0), -1);
    Check.due("no such shelf", x.keep(8, 0, 0, 0), -1);
    Check.due("no such shelf", x.keep(-1, 1, 0, 0), -1);
    Check.due("what was there stays", x.cost(0), 13);
    Check.due("nothing; the others do not matter", x.keep(0, 0, 99, -99), 0);
    Check.due("nothing is there", x.cost(0), -11);
    x.row(7, 0, 1);
    Check.due("a kind for a row", x.keep(7, 1, 0, 0), 0);
    Check.due("no row any more", x.put(7, 0, 0), -12);
    x.row(7, 0, 1);
    Check.due("nothing for a row", x.keep(7, 0, 0, 0), 0);
    Check.due("nothing is there", x.put(7, 0, 0), -11);
  }

  private static void row() {
    TwoToALocker x = new TwoToALocker();
    for (int sort = 0; sort <= 2; sort++) {
      Check.due("the longest", x.row(sort, sort, 100), 0);
      Check.due("0 at first", x.element(sort, 99), 0);
      Check.due("no more", x.put(sort, 100, 1), -13);
    }
    x.put(0, 0, 5);
    Check.due("too long", x.row(0, 0, 101), -1);
    Check.due("no such sort", x.row(0, 3, 1), -1);
    Check.due("no such sort", x.row(0, -1, 1), -1);
    Check.due("no such shelf", x.row(8, 0, 1), -1);
    Check.due("no such shelf", x.row(-1, 0, 1), -1);
    Check.due("below 0", x.row(0, 0, -1), -14);
    Check.due("below 0", x.row(0, 0, Integer.MIN_VALUE), -14);
    Check.due("-1 goes ahead", x.row(8, 0, -1), -1);
    Check.due("-1 goes ahead", x.row(0, 3, -1), -1);
    Check.due("what was there stays", x.element(0, 0), 5);
    Check.due("the shortest", x.row(0, 0, 0), 0);
    Check.due("has no element", x.put(0, 0, 1), -13);
    Check.due("a new one has 0 again", x.row(0, 0, 1), 0);
    Check.due("a new one has 0 again", x.element(0, 0), 0);
    x.keep(3, 1, 0, 0);
    Check.due("a row for a kind", x.row(3, 1, 2), 0);
    Check.due("no kind any more", x.cost(3), -12);
  }

  private static void put() {
    TwoToALocker x = new TwoToALocker();
    lowestBits(x, 0, 127, 127);
    lowestBits(x, 0, 128, -128);
    lowestBits(x, 0, 256, 0);
    lowestBits(x, 0, -129, 127);
    lowestBits(x, 1, 32768, -32768);
    lowestBits(x, 1, 70000, 4464);
    lowestBits(x, 1, -32769, 32767);
    lowestBits(x, 2, Integer.MIN_VALUE, Integer.MIN_VALUE);
    lowestBits(x, 2, Integer.MAX_VALUE, Integer.MAX_VALUE);
    x.row(0, 2, 3);
    Check.due("below", x.put(0, -1, 1), -13);
    Check.due("behind", x.put(0, 3, 1), -13);
    x.put(0, 1, 7);
    Check.due("ahead stays", x.element(0, 0), 0);
    Check.due("behind stays", x.element(0, 2), 0);
    Check.due("no such shelf", x.put(8, 0, 1), -1);
    Check.due("no such shelf", x.put(-1, 0, 1), -1);
    Check.due("nothing", x.put(1, -1, 1), -11);
    x.keep(1, 1, 0, 0);
    Check.due("a kind", x.put(1, -1, 1), -12);
  }

  private static void lowestBits(TwoToALocker x, int sort, int v, int want) {
    x.row(4, sort, 2);
    Check.due("put", x.put(4, 1, v), 0);
    Check.due("element", x.element(4, 1), want);
  }

  private static void element() {
    TwoToALocker x = new TwoToALocker();
    Check.shelve(x, 0, 2, 5, -6);
    x.keep(1, 1, 0, 0);
    Check.due("element", x.element(0, 0), 5);
    Check.due("element", x.element(0, 1), -6);
    throwsBy(x, 8, 0, 1);
    throwsBy(x, -1, 0, 1);
    throwsBy(x, Integer.MIN_VALUE, -1, 1);
    throwsBy(x, 0, 2, 2);
    throwsBy(x, 0, -1, 2);
    throwsBy(x, 1, 0, 2);
    throwsBy(x, 2, 0, 2);
  }

  private static void throwsBy(TwoToALocker x, int d, int i, int want) {
    int thrown = 0;
    try {
      x.element(d, i);
    } catch (IllegalArgumentException e) {
      thrown = e.getClass() == IllegalArgumentException.class ? 1 : 3;
    } catch (IllegalStateException e) {
      thrown = e.getClass() == IllegalStateException.class ? 2 : 4;
    }
    Check.due("element(" + d + ", " + i + ") throws", thrown, want);
  }

  private static void copy() {
    TwoToALocker x = new TwoToALocker();
    Check.shelve(x, 0, 1, 1, 2, 3, 4, 5);
    x.row(1, 1, 3);
    Check.due("copy", x.copy(0, 2, 1, 1, 2), 2);
    holds(x, 1, 0, 3, 4);
    holds(x, 0, 1, 2, 3, 4, 5);
    Check.due("none", x.copy(0, 0, 1, 0, 0), 0);
    Check.due("none, at the ends", x.copy(0, 5, 1, 3, 0), 0);
    holds(x, 1, 0, 3, 4);
    Check.due("over itself, to the right", x.copy(0, 0, 0, 1, 4), 4);
    holds(x, 0, 1, 1, 2, 3, 4);
    Check.due("over itself, to the left", x.copy(0, 1, 0, 0, 4), 4);
    holds(x, 0, 1, 2, 3, 4, 4);
    Check.due("all of it onto itself", x.copy(0, 0, 0, 0, 5), 5);
    holds(x, 0, 1, 2, 3, 4, 4);
  }

  private static void holds(TwoToALocker x, int d, int... want) {
    for (int i = 0; i < want.length; i++) {
      Check.due("element", x.element(d, i), want[i]);
    }
  }

  private static void copyRefused() {
    TwoToALocker x = new TwoToALocker();
    Check.shelve(x, 0, 1, 1, 2, 3, 4, 5);
    Check.shelve(x, 1, 1, 7, 7, 7);
    x.row(2, 0, 5);
    x.keep(3, 1, 0, 0);
    Check.due("too many of the one", x.copy(0, 4, 1, 0, 2), -13);
    Check.due("too many of the other", x.copy(0, 0, 1, 2, 2), -13);
    Check.due("below", x.copy(0, -1, 1, 0, 1), -13);
    Check.due("below", x.copy(0, 0, 1, -1, 1), -13);
    Check.due("a size below 0", x.copy(0, 0, 1, 0, -1), -13);
    Check.due("behind, none", x.copy(0, 6, 1, 0, 0), -13);
    Check.due("behind, none", x.copy(0, 0, 1, 4, 0), -13);
    Check.due("a sum that wraps around", x.copy(0, 1, 1, 1, Integer.MAX_VALUE), -13);
    Check.due("a sum that wraps around", x.copy(0, Integer.MAX_VALUE, 1, 1, 1), -13);
    Check.due("another sort", x.copy(0, 0, 2, 0, 1), -12);
    Check.due("a kind", x.copy(0, 0, 3, 0, 1), -12);
    Check.due("a kind", x.copy(3, 0, 0, 0, 1), -12);
    Check.due("a kind onto itself", x.copy(3, 0, 3, 0, 0), -12);
    Check.due("-12 goes ahead of -13", x.copy(0, -1, 2, 0, 1), -12);
    Check.due("nothing", x.copy(0, 0, 4, 0, 1), -11);
    Check.due("nothing", x.copy(4, 0, 0, 0, 1), -11);
    Check.due("-11 goes ahead of -12", x.copy(3, 0, 4, 0, 1), -11);
    Check.due("-11 goes ahead of -12", x.copy(4, 0, 3, 0, 1), -11);
    Check.due("no such shelf", x.copy(0, 0, 8, 0, 1), -1);
    Check.due("no such shelf", x.copy(-1, 0, 0, 0, 1), -1);
    Check.due("-1 goes ahead of -11", x.copy(4, 0, 8, 0, 1), -1);
    holds(x, 1, 7, 7, 7);
  }

  private static void cost() {
    TwoToALocker x = new TwoToALocker();
    int[] at0 = {3, 5, 3, 4, 6, 2, 5, 4};
    int[] at7 = {3, 5, 10, 4, 20, 2, 12, 11};
    for (int k = 0; k < 8; k++) {
      x.keep(k, 1, k, 0);
      Check.due("cost of kind " + k, x.cost(k), at0[k]);
      x.keep(k, 1, k, 7);
      Check.due("cost of kind " + k, x.cost(k), at7[k]);
    }
    refusedOf(x);
  }

  private static void toss() {
    TwoToALocker x = new TwoToALocker();
    int[] at7 = {7, -15, 107, 7, 220, -15, 107, 7};
    for (int k = 0; k < 8; k++) {
      x.keep(k, 1, k, 0);
      Check.due("toss of kind " + k, x.toss(k), -15);
      x.keep(k, 1, k, 7);
      Check.due("toss of kind " + k, x.toss(k), at7[k]);
      Check.due("it stays on its shelf", x.toss(k), at7[k]);
    }
    refusedOf(x);
  }

  private static void refusedOf(TwoToALocker x) {
    x.keep(0, 0, 0, 0);
    x.row(1, 0, 1);
    Check.due("nothing", x.cost(0), -11);
    Check.due("nothing", x.toss(0), -11);
    Check.due("a row", x.cost(1), -12);
    Check.due("a row", x.toss(1), -12);
    Check.due("no such shelf", x.cost(8), -1);
    Check.due("no such shelf", x.toss(8), -1);
    Check.due("no such shelf", x.cost(-1), -1);
    Check.due("no such shelf", x.toss(-1), -1);
  }
}
