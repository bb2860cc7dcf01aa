/** Promise 1: what each call answers where there is nothing: no pupils, no lockers, empty shelves, rows of length 0. */
public final class NewObjectTest {
  private static final long ABOVE_1 = 1000000001L;

  public static void main(String[] args) {
    toldOnNothing();
    askedOnNothing();
    shelvesOfNothing();
    rowsOfNothing();
    pupilsWithoutLockers();
    lockersWithoutPupils();
    onePupil();
    Check.end();
  }

  private static void on(long want, String name, int... arguments) {
    Check.due("new: " + Face.text(name, arguments), Face.call(new TwoToALocker(), name, arguments), want);
  }

  private static void toldOnNothing() {
    on(-1, "pupil", 0, 0);
    on(-1, "locker", 0, 0);
    on(0, "stands", 0, 0);
    on(-1, "moves", 0, 9);
    on(-1, "changes", 0, 1);
    on(-1, "loses", 0);
    on(-1, "makes", 0);
    for (int d = 0; d < 8; d++) {
      on(-11, "school", d);
      on(-11, "joins", d, 0);
    }
  }

  private static void askedOnNothing() {
    on(-1, "bears", 0, 1);
    on(-1, "trouble", 0, 0);
    on(ABOVE_1, "content", 0);
    on(0, "clashes", 0);
    on(-4, "clashes", 1);
    on(0, "rather", 0);
    on(-4, "rather", 1);
    on(0, "best", -1);
    on(-1, "best", 0);
    on(1, "rests", -1);
    on(-1, "rests", 0);
    on(0, "placed");
    on(-1, "placedAt", 0);
    on(0, "agreed");
    on(0, "agreedContent");
    on(0, "list", 0);
    on(0, "list", 1);
    on(0, "alone", 0);
    on(-4, "price", 1);
    on(-1, "otherwise", 0);
    on(0, "hours", 0);
    on(0, "hours", 1);
    on(0, "envy", -1);
    on(-1, "envy", 0);
    on(ABOVE_1, "gone", 0, 2, 1, 0);
    on(-1, "dent", 0, 0, 0);
    on(-4, "turn", 0);
    on(-4, "turn", 1);
    on(0, "widowed", 0);
    on(0, "widowed", 1);
    on(1000000003L, "terms", 1, 1, 0);
    on(1000000003L, "terms", 1, 1, 1);
    on(0, "image");
    on(-3, "restore");
    on(0, "all");
    for (int what = 0; what <= 5; what++) {
      on(0, "count", what);
    }
  }

  private static void shelvesOfNothing() {
    for (int d = 0; d < 8; d++) {
      on(-11, "june", d, 0);
      on(-11, "forged", d);
      on(-11, "judge", d);
      on(0, "keep", d, 0, 0, 0);
      on(-11, "put", d, 0, 0);
      on(Face.THROWS_ISE, "element", d, 0);
      on(-11, "copy", d, 0, 7 - d, 0, 0);
      on(-11, "copy", d, 0, d, 0, 0);
      on(-11, "cost", d);
      on(-11, "toss", d);
    }
  }

  private static void rowsOfNothing() {
    for (int sort = 0; sort <= 2; sort++) {
      TwoToALocker x = new TwoToALocker();
      x.row(0, sort, 0);
      x.row(7, sort, 0);
      Check.due("school", x.school(0), sort == 0 ? -1000 : -12);
      Check.due("june: who", x.june(0, 0), 0);
      Check.due("june: how many", x.june(0, 1), 0);
      Check.due("june: the first", x.june(0, 2), -4);
      Check.due("forged", x.forged(0), -4);
      Check.due("judge", x.judge(0), -4);
      Check.due("put", x.put(0, 0, 0), -13);
      Check.due("element", Face.call(x, "element", 0, 0), Face.THROWS_ISE);
      Check.due("copy", x.copy(0, 0, 7, 0, 0), 0);
      Check.due("copy onto itself", x.copy(0, 0, 0, 0, 0), 0);
      Check.due("copy of one", x.copy(0, 0, 7, 0, 1), -13);
      Check.due("copy behind the end", x.copy(0, 1, 7, 0, 0), -13);
      Check.due("cost", x.cost(0), -12);
      Check.due("toss", x.toss(0), -12);
      x.keep(3, 1, 0, 5);
      x.joins(3, 0);
      Check.due("june with a pupil", x.june(0, 0), -13);
      Check.due("forged with a pupil", x.forged(0), -4);
      Check.due("judge with a pupil", x.judge(0), -4);
    }
    TwoToALocker y = new TwoToALocker();
    for (int sort = 0; sort <= 2; sort++) {
      Check.shelve(y, 0, sort, 0);
      Check.due("all content of nobody is 0", y.judge(0), -4);
      Check.shelve(y, 0, sort, 0, 0);
      Check.due("there is no change", y.judge(0), 1);
      Check.shelve(y, 0, sort, 1);
      Check.due("it is not 1", y.judge(0), 0);
      Check.shelve(y, 0, sort, 9);
      Check.due("nobody is in none", y.forged(0), 0);
      Check.due("nobody is in none", y.june(0, 0), -13);
    }
  }

  private static void pupilsWithoutLockers() {
    TwoToALocker x = Check.school("p050;p050;p050;");
    Face.due(x, -1, "trouble", 0, 0);
    Face.due(x, -1, "locker", 0, 0);
    Face.due(x, -1, "moves", 0, 0);
    Face.due(x, 9, "moves", 0, 9);
    Face.due(x, 0, "changes", 0, 1);
    Face.due(x, -20, "content", 2);
    Face.due(x, -60, "all");
    Face.due(x, 0, "clashes", 0);
    Face.due(x, 3, "rather", 0);
    Face.due(x, -60, "placed");
    Face.due(x, 9, "placedAt", 2);
    Face.due(x, 0, "agreed");
    Face.due(x, -60, "agreedContent");
    Face.due(x, -60, "list", 0);
    Face.due(x, 0, "list", 1);
    Face.due(x, 0, "alone", 0);
    Face.due(x, -4, "price", 1);
    Face.due(x, 0, "envy", -1);
    Face.due(x, -3, "dent", 0, 0, 0);
    Face.due(x, -4, "turn", 0);
    Face.due(x, -4, "turn", 1);
    Face.due(x, 0, "widowed", 0);
    Face.due(x, 0, "widowed", 1);
    Face.due(x, -60, "terms", 1, 5, 0);
    Face.due(x, 0, "terms", 1, 5, 1);
    Face.due(x, 7, "count", 4);
    Face.due(x, 0, "count", 3);
    Check.shelve(x, 0, 0, 9, 9, 9);
    Face.due(x, 0, "june", 0, 0);
    Face.due(x, 0, "june", 0, 1);
    Face.due(x, -4, "forged", 0);
    Check.shelve(x, 0, 0, 9, 0, 9);
    Face.due(x, 1, "forged", 0);
  }

  private static void lockersWithoutPupils() {
    TwoToALocker x = Check.school("l00;l91;l50;l00;l00;k4;");
    Face.due(x, 0, "locker", 0, 3);
    Face.due(x, -1, "moves", 0, 0);
    Face.due(x, 0, "placed");
    Face.due(x, 0, "list", 0);
    Face.due(x, 0, "widowed", 0);
    Face.due(x, 31, "widowed", 1);
    Face.due(x, 0, "all");
    Face.due(x, 9, "count", 3);
    Face.due(x, 0, "count", 4);
    Face.due(x, -4, "turn", 0);
    Face.due(x, 1000000003L, "terms", 20, 1, 0);
    Face.due(x, 1, "gone", 4, 2, 1, 0);
    Face.due(x, 2, "gone", 4, 2, 1, 1);
    Check.shelve(x, 0, 0, 0);
    Face.due(x, 0, "forged", 0);
    Face.due(x, -13, "june", 0, 0);
  }

  private static void onePupil() {
    TwoToALocker x = Check.school("p050;l00;");
    Face.due(x, -1, "changes", 0, 0);
    Face.due(x, -1, "bears", 0, 0);
    Face.due(x, 0, "rather", 0);
    Face.due(x, 0, "best", -1);
    Face.due(x, -4, "best", 0);
    Face.due(x, 1, "rests", -1);
    Face.due(x, -4, "rests", 0);
    Face.due(x, 12, "placed");
    Face.due(x, 0, "placedAt", 0);
    Face.due(x, -4, "otherwise", 0);
    Face.due(x, 0, "envy", 0);
    Face.due(x, 1000000003L, "terms", 1, 0, 0);
    Face.due(x, 12, "list", 0);
    Face.due(x, 1, "list", 1);
    Face.due(x, 9, "moves", 0, 0);
    Face.due(x, 0, "alone", 0);
    Face.due(x, 7, "dent", 0, 7, 0);
    Face.due(x, 7, "dent", 0, 7, 1);
    Face.due(x, 7, "dent", 0, 7, 2);
    Face.due(x, 0, "turn", 0);
    Face.due(x, 0, "turn", 1);
    Face.due(x, 1, "widowed", 0);
    Face.due(x, -4, "pupil", 0, 6);
  }
}
