/** Promises 1 to 10: the school as told. */
public final class SchoolTest {
  public static void main(String[] args) {
    newObject();
    textComes();
    faultsOfBytes();
    faultsOfStatements();
    penceOfTexts();
    shelfOfText();
    pupil();
    locker();
    joins();
    stands();
    moves();
    changes();
    loses();
    makes();
    Check.end();
  }

  private static void newObject() {
    TwoToALocker x = new TwoToALocker();
    for (int what = 0; what <= 5; what++) {
      Check.due("count of a new object", x.count(what), 0);
    }
    Check.due("pupil of a new object", x.pupil(0, 0), -1);
    Check.due("locker of a new object", x.locker(0, 0), -1);
    Check.due("restore of a new object", x.restore(), -3);
    for (int d = 0; d < 8; d++) {
      Check.due("cost of a new shelf", x.cost(d), -11);
    }
  }

  private static void textComes() {
    TwoToALocker x = new TwoToALocker();
    Check.shelve(x, 2, "p735;l91;m00;p000;x01;k0;k0;n0;l00;k1;");
    Check.due("school", x.school(2), 10);
    Check.due("kind", x.pupil(0, 0), 7);
    Check.due("figure", x.pupil(0, 1), 3);
    Check.due("hour", x.pupil(0, 2), 5);
    Check.due("in, changed", x.pupil(0, 3), 9);
    Check.due("in, changed", x.pupil(1, 3), 0);
    Check.due("far", x.locker(0, 0), 9);
    Check.due("above", x.locker(0, 1), 1);
    Check.due("keys made", x.locker(0, 2), 2);
    Check.due("keys lost", x.locker(1, 2), 1);
    Check.due("pence", x.count(2), 5);
    Check.due("the text stays and comes once more", x.school(2), 10);
    Check.due("pupils", x.count(0), 4);
    Check.due("lockers", x.count(1), 4);
    Check.due("m00 tells the first of all, not of the text", x.pupil(0, 3), 0);
    Check.due("x01 changes the first two, now in one", x.pupil(1, 3), 0);
    Check.due("others are as they came", x.pupil(2, 3), 9);
    Check.due("pence", x.count(2), 10);
    Check.due("k0, k0, n0 twice", x.locker(0, 2), 2);
    Check.due("k1 twice", x.locker(1, 2), 0);
  }

  private static void faultsOfBytes() {
    Check.fault("", -1000);
    Check.fault("q", -1000);
    Check.fault("P000;", -1000);
    Check.fault(" p000;", -1000);
    Check.fault("p", -1001);
    Check.fault("p0", -1002);
    Check.fault("p00;", -1003);
    Check.fault("p000", -1004);
    Check.fault("p0000;", -1004);
    Check.fault("p000,", -1004);
    Check.fault("p000;;", -1005);
    Check.fault("p000;l", -1006);
    Check.fault("l0;", -1002);
    Check.fault("l000;", -1003);
    Check.fault("m0/;", -1002);
    Check.fault("x0:;", -1002);
    Check.fault("k;", -1001);
    Check.fault("k00;", -1002);
    Check.fault("n00;", -1002);
    Check.fault("p900;z", -1005);
    Check.fault("m99;p000;p00", -1012);
    TwoToALocker x = new TwoToALocker();
    Check.shelve(x, 0, 0, 'p', '0', '0', '0', ';', 0);
    Check.due("a byte 0", x.school(0), -1005);
    Check.shelve(x, 0, 0, -16);
    Check.due("a byte below 0", x.school(0), -1000);
  }

  private static void faultsOfStatements() {
    Check.fault("p800;", -2000);
    Check.fault("p006;", -2000);
    Check.fault("l02;", -2000);
    Check.fault("p000;l00;m10;", -2009);
    Check.fault("p000;l00;m01;", -2009);
    Check.fault("m09;", -2000);
    Check.fault("p000;x01;", -2005);
    Check.fault("p000;x10;", -2005);
    Check.fault("p000;x00;", -2005);
    Check.fault("k0;", -2000);
    Check.fault("n0;", -2000);
    Check.fault("l00;k1;", -2004);
    Check.fault("l00;n1;", -2004);
    Check.fault("l00;k0;k0;k0;", -2010);
    Check.fault("l00;p000;p000;p000;m00;m10;m20;", -2027);
    Check.fault("p000;p000;p000;p000;p000;p000;p000;p000;p000;", -2040);
    Check.fault("l00;l00;l00;l00;l00;l00;", -2020);
    Check.fault("k0;l00;", -2000);
    Check.faultOn(Check.school("l00;k0;k0;"), "p000;k0;", -2005);
    Check.faultOn(Check.school("p000;p000;l00;m00;m10;p000;"), "m20;", -2000);
    TwoToALocker x = Check.school("p000;p000;l00;m00;m10;p000;");
    Check.shelve(x, 0, "m00;m19;m20;x01;x12;");
    Check.due("being in it already, none, then room", x.school(0), 5);
    Check.due("in", x.pupil(1, 3), 0);
    Check.due("in", x.pupil(0, 3), 9);
    Check.due("in", x.pupil(2, 3), 0);
    TwoToALocker y = Check.school("p000;p000;");
    Check.shelve(y, 0, "x01;");
    Check.due("places alike are no fault", y.school(0), 1);
  }

  private static void penceOfTexts() {
    TwoToALocker x = Check.school("l00;");
    StringBuilder text = new StringBuilder();
    for (int i = 0; i < 33; i++) {
      text.append("n0;");
    }
    Check.shelve(x, 0, text.toString());
    for (int i = 0; i < 60; i++) {
      Check.due("33 statements", x.school(0), 33);
    }
    Check.due("pence", x.count(2), 9900);
    Check.due("pence above 9999", x.school(0), -2000 - 19 * 3);
    Check.due("nothing comes", x.count(2), 9900);
    for (int i = 1; i <= 19; i++) {
      Check.due("makes", x.makes(0), 9900 + 5 * i);
    }
    Check.due("loses", x.loses(0), 1);
    Check.due("makes above 9999", x.makes(0), -3);
    Check.due("keys stay", x.locker(0, 2), 1);
    Check.due("pence stay", x.count(2), 9995);
    Check.due("makes of none is told first", x.makes(1), -1);
  }

  private static void shelfOfText() {
    TwoToALocker x = new TwoToALocker();
    Check.due("school(-1)", x.school(-1), -1);
    Check.due("school(8)", x.school(8), -1);
    Check.due("school of nothing", x.school(0), -11);
    x.keep(0, 1, 0, 0);
    Check.due("school of a kind", x.school(0), -12);
    x.row(0, 1, 0);
    Check.due("school of shorts", x.school(0), -12);
    x.row(0, 2, 5);
    Check.due("school of ints", x.school(0), -12);
  }

  private static void pupil() {
    TwoToALocker x = Check.school("p000;p101;p202;p303;p404;p505;p615;p794;l00;m00;m60;");
    int[] damp = {0, 3, 0, 0, 0, 6, 0, 0};
    int[] room = {4, 6, 3, 5, 3, 6, 3, 10};
    int[] figure = {0, 0, 0, 0, 0, 0, 1, 9};
    int[] hour = {0, 1, 2, 3, 4, 5, 5, 4};
    for (int p = 0; p < 8; p++) {
      Check.due("kind", x.pupil(p, 0), p);
      Check.due("figure", x.pupil(p, 1), figure[p]);
      Check.due("hour", x.pupil(p, 2), hour[p]);
      Check.due("in", x.pupil(p, 3), p == 0 || p == 6 ? 0 : 9);
      Check.due("damp", x.pupil(p, 4), damp[p]);
      Check.due("room", x.pupil(p, 5), room[p]);
      Check.due("mate", x.pupil(p, 6), p == 0 ? 6 : p == 6 ? 0 : -4);
    }
    x.moves(0, 9);
    Check.due("mate alone", x.pupil(6, 6), -4);
    Check.due("no such pupil", x.pupil(8, 0), -1);
    Check.due("no such pupil", x.pupil(-1, 0), -1);
    Check.due("no such what", x.pupil(0, 7), -1);
    Check.due("no such what", x.pupil(0, -1), -1);
  }

  private static void locker() {
    TwoToALocker x = Check.school("l71;l20;p000;p000;m01;m11;k1;");
    int[][] want = {{7, 1, 2, 0}, {2, 0, 1, 2}};
    for (int l = 0; l < 2; l++) {
      for (int what = 0; what < 4; what++) {
        Check.due("locker", x.locker(l, what), want[l][what]);
      }
    }
    Check.due("no such locker", x.locker(2, 0), -1);
    Check.due("no such locker", x.locker(-1, 0), -1);
    Check.due("no such what", x.locker(0, 4), -1);
    Check.due("no such what", x.locker(0, -1), -1);
  }

  private static void joins() {
    TwoToALocker x = new TwoToALocker();
    x.keep(1, 1, 6, 8);
    for (int p = 0; p < 8; p++) {
      Check.due("joins", x.joins(1, p % 6), p);
      Check.due("kind", x.pupil(p, 0), 6);
      Check.due("figure", x.pupil(p, 1), 8);
      Check.due("hour", x.pupil(p, 2), p % 6);
      Check.due("in none at first", x.pupil(p, 3), 9);
    }
    x.row(2, 0, 1);
    Check.due("no room", x.joins(1, 0), -2);
    Check.due("a row", x.joins(2, 0), -12);
    Check.due("nothing", x.joins(3, 0), -11);
    Check.due("no such hour", x.joins(3, 6), -1);
    Check.due("no such hour", x.joins(1, -1), -1);
    Check.due("no such shelf", x.joins(8, 0), -1);
    Check.due("no such shelf", x.joins(-1, 0), -1);
    Check.due("nobody more", x.count(0), 8);
    Check.due("the one stays on the shelf", x.cost(1), 13);
  }

  private static void stands() {
    TwoToALocker x = new TwoToALocker();
    for (int l = 0; l < 5; l++) {
      Check.due("stands", x.stands(9 - l, l % 2), l);
      Check.due("far", x.locker(l, 0), 9 - l);
      Check.due("above", x.locker(l, 1), l % 2);
      Check.due("keys", x.locker(l, 2), 2);
      Check.due("nobody in it", x.locker(l, 3), 0);
    }
    Check.due("no room", x.stands(0, 0), -2);
    Check.due("range ahead of room", x.stands(10, 0), -1);
    Check.due("range", x.stands(-1, 0), -1);
    Check.due("range", x.stands(0, 2), -1);
    Check.due("range", x.stands(0, -1), -1);
    Check.due("lockers", x.count(1), 5);
  }

  private static void moves() {
    TwoToALocker x = Check.school("p000;p000;p000;l00;l00;");
    Check.due("from none", x.moves(0, 1), 9);
    Check.due("from 1", x.moves(0, 0), 1);
    Check.due("a second", x.moves(1, 0), 9);
    Check.due("a third", x.moves(2, 0), -3);
    Check.due("it stays", x.pupil(2, 3), 9);
    Check.due("being in it already", x.moves(1, 0), 0);
    Check.due("to none", x.moves(1, 9), 0);
    Check.due("from none to none", x.moves(1, 9), 9);
    Check.due("now there is room", x.moves(2, 0), 9);
    Check.due("no such pupil", x.moves(3, 0), -1);
    Check.due("no such pupil", x.moves(-1, 0), -1);
    Check.due("no such locker", x.moves(0, 2), -1);
    Check.due("no such locker", x.moves(0, -1), -1);
    Check.due("no such locker", x.moves(0, 10), -1);
  }

  private static void changes() {
    TwoToALocker x = Check.school("p000;p000;p000;p000;l00;l00;m00;m10;m21;");
    Check.due("changes", x.changes(0, 2), 1);
    Check.due("in", x.pupil(0, 3), 1);
    Check.due("in", x.pupil(2, 3), 0);
    Check.due("with none", x.changes(3, 2), 1);
    Check.due("in", x.pupil(3, 3), 0);
    Check.due("in none", x.pupil(2, 3), 9);
    Check.due("mates", x.changes(1, 3), 0);
    x.moves(0, 9);
    Check.due("both in none", x.changes(0, 2), 0);
    Check.due("one twice", x.changes(1, 1), -1);
    Check.due("no such", x.changes(0, 4), -1);
    Check.due("no such", x.changes(-1, 0), -1);
  }

  private static void loses() {
    TwoToALocker x = Check.school("l00;l00;");
    Check.due("loses", x.loses(1), 1);
    Check.due("loses", x.loses(1), 0);
    Check.due("none", x.loses(1), -3);
    Check.due("the other keeps its own", x.locker(0, 2), 2);
    Check.due("no such", x.loses(2), -1);
    Check.due("no such", x.loses(-1), -1);
  }

  private static void makes() {
    TwoToALocker x = Check.school("l00;l00;k1;k1;k0;");
    Check.due("makes", x.makes(1), 5);
    Check.due("keys", x.locker(1, 2), 2);
    Check.due("the other keeps its own", x.locker(0, 2), 1);
    Check.due("makes of what is there", x.makes(1), 10);
    Check.due("keys", x.locker(1, 2), 2);
    Check.due("no such", x.makes(2), -1);
    Check.due("no such", x.makes(-1), -1);
    Check.due("pence", x.count(2), 10);
  }
}
