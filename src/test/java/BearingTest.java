/** Promises 11 to 19: who bears whom. */
public final class BearingTest {
  /** One of each kind, all with figure 5. */
  private static final String EACH_KIND = "p050;p150;p250;p350;p450;p550;p650;";

  public static void main(String[] args) {
    bears();
    trouble();
    content();
    clashes();
    rather();
    best();
    rests();
    placed();
    placedAt();
    Check.end();
  }

  private static void bears() {
    bearsLast("p520;", 3, 9, 0, 5, 0, 9, 0);
    bearsLast("p090;", 8, 8, 8, 10, 4, 8, 5);
    bearsLast("p160;", 8, 11, 5, 10, 2, 11, 2);
    TwoToALocker x = Check.school("p750;p520;p090;p160;p700;p590;p100;p300;");
    Check.due("giant bears smelly", x.bears(0, 1), 6);
    Check.due("giant bears pupil", x.bears(0, 2), 11);
    Check.due("giant bears wet", x.bears(0, 3), 11);
    Check.due("0 at least of what a giant is under", x.bears(4, 5), 3);
    Check.due("0 at least of what a wet one is under", x.bears(6, 5), 6);
    Check.due("0 at least of what a tall one is under", x.bears(7, 5), 2);
    Check.due("smelly bears giant", x.bears(1, 0), 9);
    Check.due("one twice", x.bears(0, 0), -1);
    Check.due("no such", x.bears(0, 8), -1);
    Check.due("no such", x.bears(-1, 0), -1);
    Check.due("one twice, and no such", x.bears(8, 8), -1);
    TwoToALocker y = Check.school("p050;");
    Check.due("not there", y.bears(0, 1), -1);
    Check.due("not there", y.bears(1, 0), -1);
  }

  private static void bearsLast(String last, int... want) {
    TwoToALocker x = Check.school(EACH_KIND + last);
    for (int p = 0; p < want.length; p++) {
      Check.due("kind " + p + " bears " + last, x.bears(p, 7), want[p]);
    }
  }

  private static void trouble() {
    TwoToALocker x = Check.school(EACH_KIND + "p750;l41;l40;l90;");
    for (int p = 0; p < 8; p++) {
      boolean tall = p == 3 || p == 7;
      Check.due("above, kind " + p, x.trouble(p, 0), tall ? 4 : 6);
      Check.due("below, kind " + p, x.trouble(p, 1), tall ? 7 : 4);
      Check.due("far, kind " + p, x.trouble(p, 2), tall ? 12 : 9);
    }
    Check.due("no such pupil", x.trouble(8, 0), -1);
    Check.due("no such pupil", x.trouble(-1, 0), -1);
    Check.due("no such locker", x.trouble(0, 3), -1);
    Check.due("none is no locker", x.trouble(0, 9), -1);
    Check.due("no such locker", x.trouble(0, -1), -1);
  }

  private static void content() {
    TwoToALocker x = Check.school("p050;p590;p300;l41;l90;m00;m10;m21;");
    Check.due("pupil with smelly, above", x.content(0), 12 - 4 - 6 - 6);
    Check.due("smelly with pupil, above", x.content(1), 12 - 4 - 6);
    Check.due("tall alone below", x.content(2), 12 - 12);
    x.moves(2, 9);
    Check.due("in none", x.content(2), -20);
    Check.due("no such", x.content(3), 1000000001);
    Check.due("no such", x.content(-1), 1000000001);
  }

  private static void clashes() {
    TwoToALocker x = Check.school("p000;p001;p001;p001;p000;l00;l00;");
    Check.due("in none", x.clashes(0), 0);
    Check.due("in none", x.clashes(1), -4);
    x.moves(0, 0);
    x.moves(1, 0);
    Check.due("unlike hours", x.clashes(0), 0);
    x.moves(3, 1);
    x.moves(2, 1);
    Check.due("one", x.clashes(0), 1);
    Check.due("first", x.clashes(1), 23);
    x.changes(1, 4);
    Check.due("two", x.clashes(0), 2);
    Check.due("first, by the lesser", x.clashes(1), 4);
    Check.due("range", x.clashes(2), -1);
    Check.due("range", x.clashes(-1), -1);
  }

  private static void rather() {
    TwoToALocker x = Check.school("p000;p090;p000;p090;l00;l00;m00;m10;m21;m31;");
    Check.due("0 with 2, 1 with 3", x.rather(0), 2);
    Check.due("first", x.rather(1), 2);
    x.changes(1, 2);
    Check.due("all as they like", x.rather(0), 0);
    Check.due("none", x.rather(1), -4);
    x.moves(0, 9);
    Check.due("alone is 0, in none is 0", x.rather(0), 1);
    Check.due("first", x.rather(1), 2);
    x.moves(1, 9);
    x.moves(2, 9);
    x.moves(3, 9);
    Check.due("all in none", x.rather(0), 6);
    Check.due("first", x.rather(1), 1);
    Check.due("range", x.rather(2), -1);
    Check.due("range", x.rather(-1), -1);
    TwoToALocker y = Check.school("p600;p690;");
    Check.due("bearing at 0 is not better than nobody", y.rather(0), 0);
    TwoToALocker z = Check.school("p050;p250;p550;l00;m00;m20;");
    Check.due("one of both does not want: 0 bears 1 12, 2 6; 1 bears 0 12, alone 0", z.rather(1), 1);
    z.moves(2, 9);
    z.moves(1, 0);
    Check.due("2 would, 0 would not", z.rather(0), 0);
  }

  private static void best() {
    TwoToALocker x = Check.school("p000;p090;p000;p090;");
    hasBest(x, 48, 2, 3, 0, 1);
    hasBest(Check.school("p000;p000;p000;p000;"), 48, 1, 0, 3, 2);
    hasBest(Check.school("p000;p000;p000;"), 24, 1, 0, -4);
    hasBest(Check.school("p090;p000;p000;"), 24, -4, 2, 1);
    hasBest(Check.school("p050;"), 0, -4);
    hasBest(new TwoToALocker(), 0);
    Check.due("below", x.best(-2), -1);
    Check.due("no such", x.best(4), -1);
    Check.due("none at all", new TwoToALocker().best(0), -1);
  }

  private static void hasBest(TwoToALocker x, int liking, int... whom) {
    Check.due("liking", x.best(-1), liking);
    for (int i = 0; i < whom.length; i++) {
      Check.due("best(" + i + ")", x.best(i), whom[i]);
    }
  }

  private static void rests() {
    TwoToALocker x = Check.school("p000;p090;p000;p090;");
    hasRest(x, 1, 2, 3, 0, 1);
    hasRest(Check.school("p000;p000;p000;p000;"), 3, 1, 0, 3, 2);
    hasRest(Check.school("p000;p000;p000;"), 3, 1, 0, -4);
    hasRest(Check.school("p050;"), 1, -4);
    hasRest(new TwoToALocker(), 1);
    // of any two one bears the other at 0, so all twos rest; yet just one is alone
    hasRest(Check.school("p600;p690;p550;"), 3, 1, 0, -4);
    hasRest(Check.school("p600;p690;"), 1, 1, 0);
    // smelly 3 would have pupil 2 (11) rather than wet 5 (10), wet 5 smelly 3 (10) than pupil 2 (9),
    // pupil 2 wet 5 (6) than smelly 3 (5): whoever is alone breaks the others
    TwoToALocker y = Check.school("p530;p150;p020;");
    hasRest(y, 0, -5, -5, -5);
    Check.due("no such, ahead of -5", y.rests(3), -1);
    Check.due("below", x.rests(-2), -1);
    Check.due("no such", x.rests(4), -1);
  }

  private static void hasRest(TwoToALocker x, int many, int... whom) {
    Check.due("ways", x.rests(-1), many);
    for (int i = 0; i < whom.length; i++) {
      Check.due("rests(" + i + ")", x.rests(i), whom[i]);
    }
  }

  private static void placed() {
    Check.due("nobody", new TwoToALocker().placed(), 0);
    Check.due("no lockers", Check.school("p000;p000;").placed(), -40);
    Check.due("one locker", Check.school("p050;p050;l30;").placed(), 18);
    Check.due("near together, not one far", Check.school("p050;p050;l90;l00;").placed(), 24);
    Check.due("loners apart", Check.school("p650;p650;l00;l00;").placed(), 24);
    TwoToALocker x = Check.school("p000;p000;p000;l91;m20;");
    Check.due("one is in none", x.placed(), 1 + 1 - 20);
    Check.due("nobody is moved by it", x.pupil(2, 3), 0);
    Check.due("nobody is moved by it", x.pupil(0, 3), 9);
    Check.due("the greatest school", Check.school(
        "p750;p750;p750;p750;p750;p750;p750;p750;l01;l01;l01;l01;l01;").placed(), 8 * 15);
    Check.due("the least", Check.school("p050;p050;p050;p050;p050;p050;p050;p050;").placed(), -160);
  }

  private static void placedAt() {
    sits(Check.school("p050;p050;l00;l00;"), 0, 0);
    sits(Check.school("p050;p050;l90;l00;"), 1, 1);
    sits(Check.school("p650;p650;l00;l00;"), 0, 1);
    sits(Check.school("p000;p000;p000;l91;"), 0, 0, 9);
    sits(Check.school("p000;p000;"), 9, 9);
    sits(Check.school("p000;p090;p000;p090;l00;l00;"), 0, 1, 0, 1);
    // the tall one takes what is above, the other what is below
    sits(Check.school("p300;p600;l31;l30;"), 0, 1);
    sits(Check.school("p600;p300;l31;l30;"), 1, 0);
    TwoToALocker x = Check.school("p000;");
    Check.due("no such", x.placedAt(1), -1);
    Check.due("no such", x.placedAt(-1), -1);
  }

  private static void sits(TwoToALocker x, int... where) {
    for (int i = 0; i < where.length; i++) {
      Check.due("placedAt(" + i + ")", x.placedAt(i), where[i]);
    }
  }
}
