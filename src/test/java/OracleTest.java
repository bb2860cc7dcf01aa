import java.util.Random;

/** Random runs of calls of the whole face, held against the oracle; all seeds are written here. */
public final class OracleTest {
  private static final int CALLS = 512;

  private final Random random;
  private final TwoToALocker x = new TwoToALocker();
  private final Oracle y = new Oracle();
  private final String name;
  private final int mostPupils;
  private final int mostLockers;
  private int calls = 0;

  private OracleTest(int seed, int mostPupils, int mostLockers) {
    this.random = new Random(seed);
    this.name = "run " + seed;
    this.mostPupils = mostPupils;
    this.mostLockers = mostLockers;
  }

  public static void main(String[] args) {
    int runs = args.length > 0 ? Integer.parseInt(args[0]) : 120;
    for (int seed = 1; seed <= runs; seed++) {
      // full schools are dear to the oracle, so they are few
      boolean full = seed % 20 == 0;
      new OracleTest(seed, full ? 8 : 2 + seed % 5, full ? 5 : 1 + seed % 4).run();
    }
    Check.end();
  }

  private void due(String call, long got, long want) {
    calls++;
    Check.due(name + ", call " + calls + ": " + call, got, want);
  }

  /** A number around a range, seldom outside it. */
  private int about(int least, int greatest) {
    int at = random.nextInt(40);
    if (at == 0) {
      return least - 1;
    }
    if (at == 1) {
      return greatest + 1;
    }
    if (at == 2 && random.nextInt(4) == 0) {
      return random.nextBoolean() ? Integer.MIN_VALUE : Integer.MAX_VALUE;
    }
    return least + random.nextInt(greatest - least + 1);
  }

  private int somePupil() {
    return about(0, Math.max(0, y.count(0) - 1));
  }

  private int someLocker() {
    return about(0, Math.max(0, y.count(1) - 1));
  }

  private int somePlace() {
    return random.nextInt(5) == 0 ? 9 : someLocker();
  }

  private int someShelf() {
    return about(0, 7);
  }

  private void run() {
    while (calls < CALLS - 110) {
      int choice = random.nextInt(100);
      if (choice < 30) {
        tellSchool();
      } else if (choice < 60) {
        ask();
      } else if (choice < 75) {
        askMore();
      } else {
        shelve();
      }
    }
  }

  private void tellSchool() {
    switch (random.nextInt(12)) {
      case 0: case 1: join(); break;
      case 2: stand(); break;
      case 3: case 4: case 5: {
        int p = somePupil();
        int l = somePlace();
        due("moves(" + p + ", " + l + ")", x.moves(p, l), y.moves(p, l));
        break;
      }
      case 6: case 7: {
        int a = somePupil();
        int b = somePupil();
        due("changes(" + a + ", " + b + ")", x.changes(a, b), y.changes(a, b));
        break;
      }
      case 8: {
        int l = someLocker();
        due("loses(" + l + ")", x.loses(l), y.loses(l));
        break;
      }
      case 9: {
        int l = someLocker();
        due("makes(" + l + ")", x.makes(l), y.makes(l));
        break;
      }
      case 10: tellText(); break;
      default:
        if (random.nextInt(3) == 0) {
          due("image()", x.image(), y.image());
        } else if (random.nextInt(3) == 0) {
          due("restore()", x.restore(), y.restore());
        }
        break;
    }
  }

  private void join() {
    if (y.count(0) >= mostPupils && random.nextInt(20) != 0 && mostPupils < 8) {
      return;
    }
    int d = someShelf();
    int k = about(0, 7);
    int f = about(0, 9);
    int hour = about(0, 2);
    due("keep(" + d + ", 1, " + k + ", " + f + ")", x.keep(d, 1, k, f), y.keep(d, 1, k, f));
    due("joins(" + d + ", " + hour + ")", x.joins(d, hour), y.joins(d, hour));
  }

  private void stand() {
    if (y.count(1) >= mostLockers && mostLockers < 5) {
      return;
    }
    int far = about(0, 9);
    int above = about(0, 1);
    due("stands(" + far + ", " + above + ")", x.stands(far, above), y.stands(far, above));
  }

  private void tellText() {
    int d = random.nextInt(8);
    StringBuilder text = new StringBuilder();
    int statements = random.nextInt(7);
    for (int i = 0; i < statements; i++) {
      text.append(statement());
    }
    int spoil = random.nextInt(8);
    if (spoil == 0 && text.length() > 0) {
      text.setLength(random.nextInt(text.length()));
    } else if (spoil == 1 && text.length() > 0) {
      text.setCharAt(random.nextInt(text.length()), (char) (40 + random.nextInt(85)));
    }
    due("row(" + d + ", 0, " + text.length() + ")", x.row(d, 0, text.length()), y.row(d, 0, text.length()));
    for (int i = 0; i < text.length(); i++) {
      due("put", x.put(d, i, text.charAt(i)), y.put(d, i, text.charAt(i)));
    }
    due("school of " + text, x.school(d), y.school(d));
    for (int what = 0; what <= 5; what++) {
      due("count(" + what + ")", x.count(what), y.count(what));
    }
    due("all()", x.all(), y.all());
  }

  private String statement() {
    int a = random.nextInt(Math.max(1, Math.min(10, y.count(0) + 1)));
    int b = random.nextInt(Math.max(1, Math.min(10, y.count(0) + 1)));
    int l = random.nextInt(Math.max(1, Math.min(10, y.count(1) + 1)));
    switch (random.nextInt(8)) {
      case 0: return y.count(0) >= mostPupils ? "" : "p" + random.nextInt(8) + random.nextInt(10) + random.nextInt(6) + ";";
      case 1: return y.count(1) >= mostLockers ? "" : "l" + random.nextInt(10) + random.nextInt(2) + ";";
      case 2: case 3: return "m" + a + (random.nextInt(4) == 0 ? 9 : l) + ";";
      case 4: case 5: return "x" + a + (a == b ? (b + 1) % 10 : b) + ";";
      case 6: return "k" + l + ";";
      default: return "n" + l + ";";
    }
  }

  private void ask() {
    int p = somePupil();
    int o = somePupil();
    int l = someLocker();
    int what = about(0, 1);
    switch (random.nextInt(18)) {
      case 0: { int w = about(0, 6); due("pupil(" + p + ", " + w + ")", x.pupil(p, w), y.pupil(p, w)); break; }
      case 1: { int w = about(0, 3); due("locker(" + l + ", " + w + ")", x.locker(l, w), y.locker(l, w)); break; }
      case 2: due("bears(" + p + ", " + o + ")", x.bears(p, o), y.bears(p, o)); break;
      case 3: due("trouble(" + p + ", " + l + ")", x.trouble(p, l), y.trouble(p, l)); break;
      case 4: due("content(" + p + ")", x.content(p), y.content(p)); break;
      case 5: due("clashes(" + what + ")", x.clashes(what), y.clashes(what)); break;
      case 6: due("rather(" + what + ")", x.rather(what), y.rather(what)); break;
      case 7: due("list(" + what + ")", x.list(what), y.list(what)); break;
      case 8: { int q = random.nextBoolean() ? about(0, 99) : about(0, 12); due("alone(" + q + ")", x.alone(q), y.alone(q)); break; }
      case 9: { int n = about(1, 5); due("price(" + n + ")", x.price(n), y.price(n)); break; }
      case 10: due("hours(" + what + ")", x.hours(what), y.hours(what)); break;
      case 11: { int i = random.nextInt(3) == 0 ? -1 : p; due("envy(" + i + ")", x.envy(i), y.envy(i)); break; }
      case 12: gone(); break;
      case 13: { int v = about(0, 999); int law = about(0, 2); due("dent(" + p + ", " + v + ", " + law + ")", x.dent(p, v, law), y.dent(p, v, law)); break; }
      case 14: due("turn(" + what + ")", x.turn(what), y.turn(what)); break;
      case 15: due("widowed(" + what + ")", x.widowed(what), y.widowed(what)); break;
      case 16: { int w = about(0, 5); due("count(" + w + ")", x.count(w), y.count(w)); break; }
      default: due("all()", x.all(), y.all()); break;
    }
  }

  private void gone() {
    int l = someLocker();
    int t = about(2, 20);
    int n = about(1, 4);
    int part = about(0, 1);
    due("gone(" + l + ", " + t + ", " + n + ", " + part + ")", x.gone(l, t, n, part), y.gone(l, t, n, part));
  }

  private void askMore() {
    int i = random.nextInt(3) == 0 ? -1 : somePupil();
    boolean dear = y.count(0) > 6 && random.nextInt(4) != 0;
    switch (random.nextInt(9)) {
      case 0: due("best(" + i + ")", x.best(i), y.best(i)); break;
      case 1: due("rests(" + i + ")", x.rests(i), y.rests(i)); break;
      case 2: if (!dear) { due("placed()", x.placed(), y.placed()); } break;
      case 3: if (!dear) { due("placedAt(" + i + ")", x.placedAt(i), y.placedAt(i)); } break;
      case 4: due("agreed()", x.agreed(), y.agreed()); break;
      case 5: due("agreedContent()", x.agreedContent(), y.agreedContent()); break;
      case 6: if (!dear) { due("otherwise(" + i + ")", x.otherwise(i), y.otherwise(i)); } break;
      case 7: {
        int n = about(1, 20);
        int z = random.nextInt();
        int what = about(0, 1);
        due("terms(" + n + ", " + z + ", " + what + ")", x.terms(n, z, what), y.terms(n, z, what));
        break;
      }
      default: tellRow(); break;
    }
  }

  /** A row for June, or for a judge, that is nearly right. */
  private void tellRow() {
    int d = random.nextInt(8);
    int sort = random.nextInt(3);
    boolean june = random.nextBoolean();
    int n = june ? Math.max(0, y.count(0) + (random.nextInt(6) - 2) / 3) : random.nextInt(5);
    due("row(" + d + ", " + sort + ", " + n + ")", x.row(d, sort, n), y.row(d, sort, n));
    int a = random.nextInt(8);
    int b = random.nextInt(8);
    for (int i = 0; i < n; i++) {
      int from = random.nextInt(3) == 0 ? i : i == a ? b : i == b ? a : i;
      int v = june ? y.pupil(Math.min(from, Math.max(0, y.count(0) - 1)), 3) : i == 0 ? y.all() : y.agreedContent();
      v = random.nextInt(12) == 0 ? random.nextInt(11) - 1 : v;
      v = random.nextInt(12) == 0 ? Integer.MIN_VALUE >> new int[] {24, 16, 0}[sort] : v;
      due("put(" + d + ", " + i + ", " + v + ")", x.put(d, i, v), y.put(d, i, v));
    }
    int what = about(0, 2);
    due("june(" + d + ", " + what + ")", x.june(d, what), y.june(d, what));
    due("forged(" + d + ")", x.forged(d), y.forged(d));
    due("judge(" + d + ")", x.judge(d), y.judge(d));
  }

  private void shelve() {
    int d = someShelf();
    int e = someShelf();
    int i = about(0, 6);
    int j = about(0, 6);
    int n = about(0, 7);
    int sort = about(0, 2);
    int v = random.nextInt();
    switch (random.nextInt(11)) {
      case 0: { int w = about(0, 1); due("keep(" + d + ", " + w + ", " + i + ", " + j + ")", x.keep(d, w, i, j), y.keep(d, w, i, j)); break; }
      case 1: due("row(" + d + ", " + sort + ", " + n + ")", x.row(d, sort, n), y.row(d, sort, n)); break;
      case 2: { int many = about(0, 100); due("row(" + d + ", " + sort + ", " + many + ")", x.row(d, sort, many), y.row(d, sort, many)); break; }
      case 3: case 4: due("put(" + d + ", " + i + ", " + v + ")", x.put(d, i, v), y.put(d, i, v)); break;
      case 5: case 6: element(d, i); break;
      case 7: due("copy(" + d + ", " + i + ", " + e + ", " + j + ", " + n + ")", x.copy(d, i, e, j, n), y.copy(d, i, e, j, n)); break;
      case 8: due("cost(" + d + ")", x.cost(d), y.cost(d)); break;
      case 9: due("toss(" + d + ")", x.toss(d), y.toss(d)); break;
      default:
        due("school(" + d + ")", x.school(d), y.school(d));
        due("june(" + d + ", " + sort + ")", x.june(d, sort), y.june(d, sort));
        due("forged(" + d + ")", x.forged(d), y.forged(d));
        due("judge(" + d + ")", x.judge(d), y.judge(d));
        break;
    }
  }

  private void element(int d, int i) {
    int thrown = 0;
    long got = 0;
    try {
      got = x.element(d, i);
    } catch (IllegalArgumentException e) {
      thrown = Oracle.IAE;
    } catch (IllegalStateException e) {
      thrown = Oracle.ISE;
    }
    long want = y.element(d, i);
    due("element(" + d + ", " + i + ") throws", thrown, y.thrown);
    due("element(" + d + ", " + i + ")", got, want);
  }
}
