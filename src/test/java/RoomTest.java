import java.lang.management.ManagementFactory;

/** What a run of calls makes stays far below the room that all of a run's calls share. */
public final class RoomTest {
  /** The room has 7.3 million fields and elements; a run of one dear call may take a tenth, at 8 bytes each. */
  private static final long MOST_BYTES = 730_000L * 8;
  /** An object is used for at most 512 calls; the others prepare it. */
  private static final int CALLS = 390;
  private static final String FULL =
      "p050;p150;p250;p350;p450;p550;p650;p750;l00;l31;l60;l91;l20;m00;m10;m21;m31;m42;m52;m63;";

  public static void main(String[] args) {
    for (int what = 0; what < 12; what++) {
      run(what);
      long bytes = run(what);
      Check.due("what calls of sort " + what + " make: " + bytes + " bytes", bytes <= MOST_BYTES ? 1 : 0, 1);
    }
    Check.end();
  }

  private static long run(int what) {
    com.sun.management.ThreadMXBean threads = (com.sun.management.ThreadMXBean) ManagementFactory.getThreadMXBean();
    TwoToALocker x = Check.school(FULL);
    Check.shelve(x, 0, "p000;p000;p000;");
    Check.shelve(x, 1, 2, 1, 2, 3);
    x.keep(2, 1, 4, 9);
    long start = threads.getThreadAllocatedBytes(Thread.currentThread().getId());
    for (int i = 0; i < CALLS; i++) {
      call(x, what, i);
    }
    return threads.getThreadAllocatedBytes(Thread.currentThread().getId()) - start;
  }

  private static void call(TwoToALocker x, int what, int i) {
    switch (what) {
      case 0: x.otherwise(i % 8); break;
      case 1: x.best(i % 8); break;
      case 2: x.rests(i % 8); break;
      case 3: x.placedAt(i % 8); break;
      case 4: x.agreed(); break;
      case 5: x.terms(20, i, i % 2); break;
      case 6: x.judge(1); break;
      case 7: x.school(0); break;
      case 8: x.row(3, i % 3, 100); break;
      case 9: x.toss(2); break;
      case 10: x.keep(3, 1, i % 8, i % 10); break;
      default:
        if (i % 2 == 0) {
          x.image();
        } else {
          x.restore();
        }
        break;
    }
  }
}
