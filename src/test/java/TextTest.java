/** Promise 2 at its edges: the first byte, or statement, of a text that can not be. */
public final class TextTest {
  /** One of each form, that can be done one behind the other on two pupils and a locker. */
  private static final String[] FORMS = {"p123;", "l11;", "m09;", "x01;", "k0;", "n0;"};
  private static final String TWO = "p000;p000;l00;";
  private static final String FULL =
      "p050;p151;p252;p353;p454;p555;p650;p751;l10;l21;l30;l41;l50;m00;m10;m21;m31;m42;m52;m63;m73;";

  public static void main(String[] args) {
    everyByte();
    everyEnd();
    bytesGoAhead();
    longTexts();
    numbersOfStatements();
    numbersOnFull();
    placesOfStatements();
    ontoWhatIsAhead();
    rooms();
    endOfPence();
    nothingLeaks();
    narrowedBytes();
    Check.end();
  }

  /** Each of the 256 bytes at each place of each form, alone and behind another statement. */
  private static void everyByte() {
    for (String form : FORMS) {
      for (int at = 0; at < form.length(); at++) {
        for (int b = -128; b <= 127; b++) {
          if (!fits(form, at, b)) {
            answers("", form, at, b, -1000 - at);
            answers("l00;", form, at, b, -1004 - at);
          }
        }
      }
    }
  }

  private static boolean fits(String form, int at, int b) {
    if (at == 0) {
      return b > 0 && "plmxkn".indexOf(b) >= 0;
    }
    return at == form.length() - 1 ? b == ';' : b >= '0' && b <= '9';
  }

  private static void answers(String ahead, String form, int at, int b, int want) {
    TwoToALocker x = Check.school(TWO);
    Check.shelve(x, 0, ahead + form);
    x.put(0, ahead.length() + at, b);
    Check.due(ahead + form + " with " + b + " at " + at, x.school(0), want);
    Check.due("nothing comes", x.count(0) * 10 + x.count(1), 21);
  }

  /** Each form cut at each place: the end is the first byte that lacks. */
  private static void everyEnd() {
    for (String form : FORMS) {
      Check.faultOn(Check.school(TWO), form.substring(0, 0), -1000);
      for (int cut = 1; cut < form.length(); cut++) {
        Check.faultOn(Check.school(TWO), form.substring(0, cut), -1000 - cut);
        Check.faultOn(Check.school(TWO), "n0;" + form.substring(0, cut), -1003 - cut);
      }
      TwoToALocker x = Check.school(TWO);
      Check.shelve(x, 0, form);
      Check.due("all of " + form, x.school(0), 1);
    }
  }

  /** A byte, wherever it stands, is told ahead of any statement. */
  private static void bytesGoAhead() {
    Check.fault("p999;l99;m88;x99;k9;n9;?", -1000 - 23);
    Check.fault("p999;l99;m88;x99;k9;n9", -1000 - 22);
    Check.fault("x00;x00;x00;;", -1012);
    Check.fault("k0;0", -1003);
    Check.fault("m0", -1002);
    Check.fault("p800;p000;", -2000);
    Check.fault("p000;p800;p006;", -2005);
  }

  private static void longTexts() {
    comes(Check.school(TWO), "x01;".repeat(25), 25);
    comes(Check.school(TWO), "n0;".repeat(32) + "x01;", 33);
    Check.faultOn(Check.school(TWO), "x01;".repeat(24) + "n0;n", -1100);
    Check.faultOn(Check.school(TWO), "x01;".repeat(24) + "x01,", -1099);
    Check.faultOn(Check.school(TWO), "x01;".repeat(24) + "x00;", -2096);
    Check.faultOn(Check.school(TWO), "x01;" + "n0;".repeat(31) + "k9;", -2097);
    TwoToALocker x = Check.school(TWO);
    x.row(0, 0, 100);
    Check.due("a hundred zeros", x.school(0), -1000);
  }

  private static void comes(TwoToALocker x, String text, int want) {
    Check.shelve(x, 0, text);
    Check.due("school of " + text, x.school(0), want);
  }

  /** On a new object: each digit of what no statement ahead is asked for. */
  private static void numbersOfStatements() {
    for (int digit = 0; digit <= 9; digit++) {
      told("p" + digit + "00;", digit <= 7);
      told("p0" + digit + "0;", true);
      told("p00" + digit + ";", digit <= 5);
      told("l" + digit + "0;", true);
      told("l0" + digit + ";", digit <= 1);
      told("l" + digit + "1;", true);
      told("m" + digit + "9;", false);
      told("x0" + digit + ";", false);
      told("k" + digit + ";", false);
      told("n" + digit + ";", false);
    }
  }

  private static void told(String text, boolean comes) {
    if (comes) {
      comes(new TwoToALocker(), text, 1);
    } else {
      Check.fault(text, -2000);
    }
  }

  /** Eight pupils, five lockers: each digit as pupil and as locker. */
  private static void numbersOnFull() {
    for (int digit = 0; digit <= 9; digit++) {
      toldOnFull("m" + digit + "9;", digit <= 7);
      toldOnFull("m" + digit + "4;", digit <= 7);
      toldOnFull("m0" + digit + ";", digit == 0 || digit == 4 || digit == 9);
      toldOnFull("x0" + digit + ";", digit >= 1 && digit <= 7);
      toldOnFull("x" + digit + "7;", digit <= 6);
      toldOnFull("k" + digit + ";", digit <= 4);
      toldOnFull("n" + digit + ";", digit <= 4);
    }
    toldOnFull("p000;", false);
    toldOnFull("l00;", false);
  }

  private static void toldOnFull(String text, boolean comes) {
    if (comes) {
      comes(Check.school(FULL), text, 1);
    } else {
      Check.faultOn(Check.school(FULL), text, -2000);
    }
  }

  /** The place is that of the letter, whichever number of the statement can not be. */
  private static void placesOfStatements() {
    Check.faultOn(Check.school(TWO), "x01;p800;", -2004);
    Check.faultOn(Check.school(TWO), "x01;p006;", -2004);
    Check.faultOn(Check.school(TWO), "x01;l02;", -2004);
    Check.faultOn(Check.school(TWO), "x01;m20;", -2004);
    Check.faultOn(Check.school(TWO), "x01;m01;", -2004);
    Check.faultOn(Check.school(TWO), "x01;x12;", -2004);
    Check.faultOn(Check.school(TWO), "x01;x11;", -2004);
    Check.faultOn(Check.school(TWO), "x01;k1;", -2004);
    Check.faultOn(Check.school(TWO), "x01;n1;", -2004);
    Check.faultOn(Check.school(TWO), "k0;k0;k0;n0;", -2006);
    Check.faultOn(Check.school(TWO), "n0;l00;x01;p000;m00;m10;m20;", -2024);
  }

  private static void ontoWhatIsAhead() {
    TwoToALocker x = new TwoToALocker();
    comes(x, "p000;l00;m00;p111;m10;x01;k0;k0;n0;k0;", 10);
    Check.due("pence", x.count(2), 5);
    Check.due("keys", x.locker(0, 2), 1);
    comes(Check.school(TWO), "p000;m00;m10;m09;m20;", 5);
    Check.faultOn(Check.school(TWO), "p000;m00;m10;m20;m09;", -2013);
    comes(Check.school(TWO), "p000;m00;m10;m00;m10;x12;x02;", 7);
    comes(Check.school(TWO), "k0;k0;n0;k0;k0;", 5);
    Check.faultOn(Check.school(TWO), "n0;n0;k0;k0;k0;", -2012);
    Check.faultOn(Check.school(TWO), "m20;p000;", -2000);
    Check.faultOn(Check.school(TWO), "k1;l00;", -2000);
    TwoToALocker places = Check.school(TWO + "m00;m10;");
    comes(places, "m00;", 1);
    Check.due("IN it already is none", places.pupil(0, 3), 0);
    comes(places, "m19;m19;", 2);
    Check.due("none already", places.pupil(1, 3), 9);
  }

  private static void rooms() {
    comes(new TwoToALocker(), "p000;".repeat(8), 8);
    Check.fault("p000;".repeat(9), -2040);
    Check.faultOn(Check.school("p000;".repeat(7)), "p000;p000;", -2005);
    Check.faultOn(Check.school("p000;".repeat(8)), "p900;", -2000);
    comes(Check.school("p000;".repeat(7)), "p755;", 1);
    comes(new TwoToALocker(), "l91;".repeat(5), 5);
    Check.fault("l91;".repeat(6), -2020);
    Check.faultOn(Check.school("l91;".repeat(4)), "l91;l91;", -2004);
  }

  private static void endOfPence() {
    TwoToALocker x = Check.school("l00;");
    Check.shelve(x, 0, "n0;".repeat(33));
    for (int i = 0; i < 60; i++) {
      Check.due("33 statements", x.school(0), 33);
    }
    comes(x, "n0;".repeat(18), 18);
    Check.due("pence", x.count(2), 9990);
    Check.faultOn(x, "k0;n0;n0;", -2006);
    comes(x, "k0;n0;", 2);
    Check.due("pence at their end", x.count(2), 9995);
    Check.faultOn(x, "n0;", -2000);
    Check.faultOn(x, "k0;n0;", -2003);
    comes(x, "k0;", 1);
    Check.due("a key is lost all the same", x.locker(0, 2), 1);
  }

  /** What a text that is not so would have made is nowhere behind it; what came by calls is there for a text. */
  private static void nothingLeaks() {
    TwoToALocker x = Check.school(TWO);
    String seen = Face.school(x);
    Check.shelve(x, 0, "p735;l91;m11;k0;n0;x01;k7;");
    Check.due("the seventh", x.school(0), -2023);
    Check.due("nothing comes", Face.school(x).equals(seen) ? 1 : 0, 1);
    Check.due("the text stays", x.element(0, 25), ';');
    comes(x, "n0;", 1);
    Check.due("pence of that one alone", x.count(2), 5);
    Check.due("no pupil came", x.count(0), 2);
    x.keep(1, 1, 6, 3);
    Check.due("joins", x.joins(1, 4), 2);
    Check.due("stands", x.stands(7, 1), 1);
    x.moves(2, 1);
    x.loses(0);
    x.makes(1);
    comes(x, "x02;", 1);
    Check.due("what calls told is there", Face.school(x).equals("3,2,10,3,6,11 p0001 p0009 p6349 l001 l712") ? 1 : 0, 1);
    x.image();
    comes(x, "p000;", 1);
    x.restore();
    comes(x, "n0;", 1);
    Check.due("what was restored is there", x.count(0), 3);
  }

  /** What is put in keeps its lowest bits; a text is told by those. */
  private static void narrowedBytes() {
    TwoToALocker x = new TwoToALocker();
    Check.shelve(x, 0, 0, 'l' + 256, '9' - 256, '1' + 65536, ';' + (1 << 24));
    Check.due("lowest bits", x.school(0), 1);
    Check.due("far", x.locker(0, 0), 9);
    TwoToALocker y = new TwoToALocker();
    Check.shelve(y, 0, 0, 'l' + 128, '9', '1', ';');
    Check.due("a byte below 0", y.school(0), -1000);
  }
}
