/** Promises 20 to 27: changes, the list. */
public final class ChangesTest {
  /** Twos that would both gain by a change of 0 and 2. */
  private static final String CROSSED = "p000;p091;p090;p001;l00;l00;m00;m10;m21;m31;";
  /**
   * Lockers without trouble; how each bears: 0 (tidy) 1: 5, 2: 0, 3: 2; 1 (wet) 0: 11, 2: 10, 3: 9;
   * 2 (smelly) 0: 11, 1: 10, 3: 7; 3 (wet) 0: 8, 1: 9, 2: 7. From 02 13 the two 0, 1 change, to 03 12;
   * from there 2, 3, to 02 13 again: all content is 29, 30, 29, ..
   */
  static final String ENDLESS = "p260;p150;p570;p120;l00;l00;m01;m10;m21;m30;";

  public static void main(String[] args) {
    agreed();
    agreedContent();
    list();
    alone();
    price();
    otherwise();
    hours();
    envy();
    Check.end();
  }

  private static void agreed() {
    Check.due("nobody", new TwoToALocker().agreed(), 0);
    TwoToALocker x = Check.school(CROSSED);
    Check.due("0 and 2", x.agreed(), 1);
    Check.due("it is only thought", x.pupil(0, 3), 0);
    Check.due("and once more", x.agreed(), 1);
    x.changes(0, 2);
    Check.due("all as they like", x.agreed(), 0);
    Check.due("it goes on for ever", Check.school(ENDLESS).agreed(), -4);
    Check.due("one of both gains: no change", Check.school("p000;p000;l00;m00;").agreed(), 0);
    Check.due("tall goes up, the other down: both gain", Check.school("p300;p000;l01;l00;m01;m10;").agreed(), 1);
    Check.due("alike is no gain", Check.school("p000;p000;l00;l00;m00;m11;").agreed(), 0);
  }

  private static void agreedContent() {
    Check.due("nobody", new TwoToALocker().agreedContent(), 0);
    TwoToALocker x = Check.school(CROSSED);
    Check.due("ahead", x.all(), 12);
    Check.due("then", x.agreedContent(), 48);
    Check.due("it is only thought", x.all(), 12);
    Check.due("behind 60", Check.school(ENDLESS).agreedContent(), 29);
    TwoToALocker later = Check.school(ENDLESS);
    later.changes(0, 1);
    Check.due("behind 60, from one change on", later.agreedContent(), 30);
    Check.due("tall goes up", Check.school("p300;p000;l01;l00;m01;m10;").agreedContent(), 24);
    Check.due("in none", Check.school("p000;").agreedContent(), -20);
  }

  private static void list() {
    TwoToALocker x = Check.school("p050;p050;p050;p050;p050;l10;l00;m01;m10;");
    Check.due("content by it", x.list(0), 11 + 11 + 12 + 12 - 20);
    Check.due("0, 2 and 3 sit otherwise", x.list(1), 3);
    Check.due("it is only thought", x.pupil(0, 3), 1);
    x.changes(0, 1);
    Check.due("1, 2 and 3 sit otherwise", x.list(1), 3);
    Check.due("one alone by it", Check.school("p050;p050;p050;l10;l00;").list(0), 11 + 11 + 12);
    Check.due("no lockers", Check.school("p050;p050;").list(1), 0);
    Check.due("no lockers", Check.school("p050;p050;").list(0), -40);
    Check.due("range", x.list(2), 1000000001);
    Check.due("range", x.list(-1), 1000000001);
  }

  private static void alone() {
    TwoToALocker x = Check.school("p000;p090;p000;p020;p000;l00;l91;l00;m00;m10;m21;m31;m42;");
    Check.due("bearing 3, 3, 10, 10: more by 9, 9, 2, 2", x.alone(0), 4);
    Check.due("more by more than 1", x.alone(1), 4);
    Check.due("not by more than 2", x.alone(2), 2);
    Check.due("more by more than 8", x.alone(8), 2);
    Check.due("not by more than 9", x.alone(9), 0);
    Check.due("99", x.alone(99), 0);
    Check.due("range", x.alone(100), -1);
    Check.due("range", x.alone(-1), -1);
    TwoToALocker y = Check.school("p000;p000;l00;m00;m10;");
    Check.due("nothing to gain", y.alone(0), 0);
  }

  private static void price() {
    TwoToALocker x = Check.school("p000;p090;p000;p020;l00;l91;m00;m10;m21;m31;");
    Check.due("one", x.price(1), 8);
    Check.due("two", x.price(2), 8);
    Check.due("three", x.price(3), 1);
    Check.due("four", x.price(4), 1);
    Check.due("five", x.price(5), -4);
    Check.due("as many as can be told", x.price(Integer.MAX_VALUE), -4);
    Check.due("below 1", x.price(0), -1);
    Check.due("below 1", x.price(-1), -1);
    Check.due("more by just 1", Check.school("p000;p010;l00;m00;m10;").price(2), 0);
    // smelly at 9 is borne at 0 by a tidy one at 0
    Check.due("the most there is", Check.school("p200;p590;l00;m00;m10;").price(1), 11);
  }

  private static void otherwise() {
    // by the truth 0 and 1 are two (22), 2 is alone; told 0 it has 0 (24), borne 3; told 1 it has 1 (24), borne 4
    TwoToALocker x = Check.school("p000;p010;p090;");
    Check.due("2 tells 1", x.otherwise(2), 1);
    Check.due("0 has whom it bears best", x.otherwise(0), -4);
    Check.due("1 has whom it bears best", x.otherwise(1), -4);
    Check.due("its figure stays", x.pupil(2, 1), 9);
    // a loner is liked less (21): told 0 or 1, 2 is liked more
    Check.due("the least figure", Check.school("p000;p600;p090;").otherwise(2), 0);
    // tall, told 9 it is liked more (26) than 1 (24), told 8 just as much
    Check.due("the greatest figure", Check.school("p090;p090;p300;").otherwise(2), 9);
    // told 0 it would be alike (24), and the first twos leave it alone
    Check.due("alike is not enough", Check.school("p000;p000;p090;").otherwise(2), -4);
    // told 0 or 1 it has 0 (borne 3), told 2 to 5 it has 1 (borne 6)
    Check.due("the least of several", Check.school("p000;p030;p090;").otherwise(2), 2);
    Check.due("nobody else", Check.school("p050;").otherwise(0), -4);
    Check.due("two are two whatever they tell", Check.school("p000;p090;").otherwise(0), -4);
    Check.due("no such", x.otherwise(3), -1);
    Check.due("no such", x.otherwise(-1), -1);
  }

  private static void hours() {
    TwoToALocker x = Check.school("p004;p004;p004;p002;p002;p002;p005;");
    Check.due("two lockers", x.hours(0), 2);
    Check.due("the least hour of several", x.hours(1), 2);
    x.keep(0, 1, 0, 0);
    x.joins(0, 4);
    Check.due("four want two as well", x.hours(1), 2);
    TwoToALocker y = Check.school("p005;");
    Check.due("one", y.hours(0), 1);
    Check.due("its hour", y.hours(1), 5);
    Check.due("hour 1", Check.school("p001;p000;p001;p001;").hours(1), 1);
    Check.due("range", y.hours(2), -1);
    Check.due("range", y.hours(-1), -1);
    Check.due("nobody", new TwoToALocker().hours(0), 0);
    Check.due("nobody: the least hour", new TwoToALocker().hours(1), 0);
    Check.due("all at one", Check.school("p003;p003;p003;p003;p003;p003;p003;p003;").hours(0), 4);
  }

  private static void envy() {
    TwoToALocker x = Check.school(CROSSED + "p000;");
    for (int p = 0; p < 4; p++) {
      Check.due("one place with one's like", x.envy(p), 1);
    }
    Check.due("one in none envies all", x.envy(4), 4);
    Check.due("all", x.envy(-1), 8);
    Check.due("below", x.envy(-2), -1);
    Check.due("no such", x.envy(5), -1);
    Check.due("nobody", new TwoToALocker().envy(-1), 0);
    TwoToALocker y = Check.school("p600;p600;p600;l50;l00;m00;m10;m21;");
    Check.due("rather alone and near", y.envy(0), 1);
    Check.due("the mate is aside", y.envy(1), 1);
    Check.due("nobody", y.envy(2), 0);
  }
}
