/** Promises 28 to 31: keys, dents, turns. */
public final class KeysTest {
  public static void main(String[] args) {
    gone();
    dent();
    turn();
    widowed();
    Check.end();
  }

  private static void gone() {
    TwoToALocker x = Check.school("l00;l00;l00;k1;k2;k2;");
    likely(x, 0, 2, 1, 1, 4);
    likely(x, 1, 2, 1, 1, 2);
    likely(x, 2, 2, 1, 1, 1);
    likely(x, 0, 3, 2, 25, 81);
    likely(x, 1, 6, 2, 11, 36);
    likely(x, 1, 20, 4, 29679, 160000);
    likely(x, 0, 20, 4, 880843041L, 25600000000L);
    likely(x, 2, 20, 4, 1, 1);
    likely(x, 0, 2, 4, 225, 256);
    long refused = 1000000001L;
    Check.due("no such locker", x.gone(3, 2, 1, 0), refused);
    Check.due("no such locker", x.gone(-1, 2, 1, 0), refused);
    Check.due("odds", x.gone(0, 1, 1, 0), refused);
    Check.due("odds", x.gone(0, 21, 1, 0), refused);
    Check.due("terms", x.gone(0, 2, 0, 0), refused);
    Check.due("terms", x.gone(0, 2, 5, 0), refused);
    Check.due("part", x.gone(0, 2, 1, 2), refused);
    Check.due("part", x.gone(0, 2, 1, -1), refused);
    Check.due("no key is really lost", x.locker(0, 2), 2);
  }

  private static void likely(TwoToALocker x, int l, int t, int n, long above, long below) {
    Check.due("above the line", x.gone(l, t, n, 0), above);
    Check.due("below the line", x.gone(l, t, n, 1), below);
  }

  private static void dent() {
    // 0 bears 3 9, 3 bears 0 12; 1 and 2 bear one another 9; 4 is alone, 5 in none
    TwoToALocker x = Check.school("p000;p000;p130;p750;p000;p000;l00;l00;l00;m00;m30;m11;m21;m42;");
    pays(x, 0, 0, 7, 4);
    pays(x, 3, 0, 7, 3);
    pays(x, 0, 0, 8, 4);
    pays(x, 0, 1, 999, 285);
    pays(x, 3, 1, 999, 714);
    pays(x, 1, 1, 9, 3);
    pays(x, 2, 1, 9, 6);
    pays(x, 0, 2, 999, 999);
    pays(x, 3, 2, 999, 0);
    TwoToALocker y = Check.school("p000;p030;l00;m00;m10;");
    pays(y, 0, 2, 7, 4);
    pays(y, 1, 2, 7, 3);
    for (int law = 0; law <= 2; law++) {
      pays(x, 4, law, 31, 31);
      pays(x, 0, law, 0, 0);
      Check.due("in none", x.dent(5, 31, law), -3);
    }
    TwoToALocker z = Check.school("p750;p000;l00;m00;m10;");
    pays(z, 0, 2, 5, 0);
    pays(z, 1, 2, 5, 5);
    Check.due("no such", x.dent(6, 0, 0), -1);
    Check.due("no such", x.dent(-1, 0, 0), -1);
    Check.due("pence", x.dent(0, 1000, 0), -1);
    Check.due("pence", x.dent(0, -1, 0), -1);
    Check.due("law", x.dent(0, 0, 3), -1);
    Check.due("law", x.dent(0, 0, -1), -1);
    Check.due("range ahead of in none", x.dent(5, 1000, 0), -1);
  }

  private static void pays(TwoToALocker x, int p, int law, int v, int want) {
    Check.due("dent(" + p + ", " + v + ", " + law + ")", x.dent(p, v, law), want);
  }

  private static void turn() {
    TwoToALocker x = Check.school("p000;p300;p000;p000;p300;l20;l11;");
    Check.due("in none", x.turn(0), -4);
    Check.due("in none", x.turn(1), -4);
    x.moves(3, 0);
    Check.due("one", x.turn(0), 3);
    Check.due("one", x.turn(1), 3);
    x.moves(1, 0);
    x.moves(2, 1);
    x.moves(4, 1);
    Check.due("tall above 1", x.turn(0), 4);
    Check.due("tall below 5", x.turn(1), 1);
    x.moves(4, 9);
    x.moves(1, 9);
    x.moves(0, 0);
    Check.due("2, 3, 2: the least of several", x.turn(0), 0);
    Check.due("2, 3, 2: the most", x.turn(1), 2);
    x.moves(0, 9);
    x.moves(0, 1);
    Check.due("3, 3, 2: the least of several", x.turn(1), 0);
    Check.due("3, 3, 2: the least", x.turn(0), 3);
    Check.due("range", x.turn(2), -1);
    Check.due("range", x.turn(-1), -1);
    Check.due("nobody", new TwoToALocker().turn(1), -4);
  }

  private static void widowed() {
    TwoToALocker x = Check.school("p000;p000;p000;p000;l00;l00;l00;l00;m00;m12;m22;m33;");
    Check.due("just one", x.widowed(0), 1 + 8);
    Check.due("empty", x.widowed(1), 2);
    x.moves(1, 9);
    Check.due("just one", x.widowed(0), 1 + 4 + 8);
    x.moves(0, 9);
    Check.due("empty", x.widowed(1), 1 + 2);
    Check.due("range", x.widowed(2), -1);
    Check.due("range", x.widowed(-1), -1);
    Check.due("no lockers", new TwoToALocker().widowed(1), 0);
  }
}
