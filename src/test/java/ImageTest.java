/** Promises 36 to 39: the image, what is told. */
public final class ImageTest {
  public static void main(String[] args) {
    image();
    restoreTwice();
    count();
    all();
    Check.end();
  }

  private static void image() {
    TwoToALocker x = Check.school("p150;p020;l30;l41;m00;m10;k1;n0;n0;");
    Check.due("restore without image", x.restore(), -3);
    Check.due("nothing changes", x.count(0), 2);
    Check.due("image", x.image(), 10);
    x.keep(0, 1, 7, 9);
    x.row(1, 0, 3);
    x.joins(0, 5);
    x.stands(9, 1);
    x.moves(2, 1);
    x.changes(0, 2);
    x.loses(0);
    x.loses(1);
    x.makes(2);
    Check.due("restore", x.restore(), 10);
    Check.due("pupils", x.count(0), 2);
    Check.due("lockers", x.count(1), 2);
    Check.due("pence", x.count(2), 10);
    Check.due("keys", x.locker(0, 2), 2);
    Check.due("keys", x.locker(1, 2), 1);
    Check.due("in", x.pupil(0, 3), 0);
    Check.due("in", x.pupil(1, 3), 0);
    Check.due("kind", x.pupil(0, 0), 1);
    Check.due("bears", x.bears(0, 1), 9);
    Check.due("no such pupil", x.pupil(2, 0), -1);
    Check.due("shelves stay", x.cost(0), 13);
    Check.due("shelves stay", x.element(1, 2), 0);
    Check.due("one more comes on what is restored", x.joins(0, 1), 2);
    Check.due("and is in none", x.pupil(2, 3), 9);
    Check.due("and bears others by its own", x.bears(2, 1), 8);
  }

  private static void restoreTwice() {
    TwoToALocker x = new TwoToALocker();
    Check.due("image of nothing", x.image(), 0);
    x.stands(0, 0);
    x.makes(0);
    Check.due("restore", x.restore(), 0);
    Check.due("lockers", x.count(1), 0);
    x.stands(5, 0);
    Check.due("the image stays", x.restore(), 0);
    Check.due("lockers", x.count(1), 0);
    x.stands(5, 0);
    x.makes(0);
    Check.due("a later image", x.image(), 5);
    x.makes(0);
    x.loses(0);
    Check.due("takes the place of the one before", x.restore(), 5);
    Check.due("lockers", x.count(1), 1);
    Check.due("keys", x.locker(0, 2), 2);
    x.loses(0);
    Check.due("what is done behind leaves the image alone", x.restore(), 5);
    Check.due("keys", x.locker(0, 2), 2);
  }

  private static void count() {
    TwoToALocker x = Check.school("p000;p700;p500;l00;l00;m10;k0;k1;k1;n0;");
    int[] want = {3, 2, 5, 2, 5, 20};
    for (int what = 0; what <= 5; what++) {
      Check.due("count(" + what + ")", x.count(what), want[what]);
    }
    Check.due("others", x.count(6), -1);
    Check.due("others", x.count(-1), -1);
  }

  private static void all() {
    Check.due("nobody", new TwoToALocker().all(), 0);
    TwoToALocker x = Check.school("p000;p090;p300;p000;l20;l31;m00;m10;m21;");
    Check.due("3 - 2, 3 - 2, 12 - 3, -20", x.all(), 1 + 1 + 9 - 20);
  }
}
