/** Two to a locker: pupils of kinds, lockers, and who would be placed how; the face of the document. */
public final class TwoToALocker {
  private static final int MOST_PUPILS = 8;
  private static final int MOST_LOCKERS = 5;
  private static final int MOST_IN_ONE = 2;
  private static final int MOST_KEYS = 2;
  private static final int MOST_PENCE = 9999;
  private static final int PRICE_OF_KEYS = 5;
  private static final int LAST_HOUR = 5;
  private static final int LAST_FIGURE = 9;
  private static final int MOST_AGREED = 60;
  private static final int DAYS_OF_A_TERM = 10;
  private static final int MOST_TERMS = 20;
  private static final int LAST_PRICE = 99;
  private static final int SHELVES = 8;
  private static final int MOST_ELEMENTS = 100;

  /** The place of one who is in no locker. */
  private static final int IN_NONE = 9;
  private static final int CONTENT_ALONE = 12;
  private static final int CONTENT_IN_NONE = -20;

  private static final int BYTES = 0;
  private static final int SHORTS = 1;
  private static final int INTS = 2;

  private static final int NO_SUCH = -1;
  private static final int NO_ROOM = -2;
  private static final int NOT_SO = -3;
  private static final int NONE = -4;
  private static final int NO_RESTING = -5;
  private static final int NOTHING_HELD = -11;
  private static final int OTHER_KIND = -12;
  private static final int NO_PLACE = -13;
  private static final int SIZE_BELOW_NOUGHT = -14;
  private static final int NO_FAILURE = -15;
  private static final int FAULT_OF_BYTE = -1000;
  private static final int FAULT_OF_STATEMENT = -2000;
  private static final int BILLION = 1000000000;

  /** Written out, as Integer's own constants are not among what LANGUAGE.md lists. */
  private static final int ALL_BUT_THE_SIGN = 0x7fffffff;
  private static final int LEAST_INT = -2147483648;

  private final School now = new School();
  private final School imaged = new School();
  /** Where what is only tried, and never comes to be, is worked out. */
  private final School trial = new School();
  private final Ways ways = new Ways();
  private final One[] ones = new One[SHELVES];
  private final Row[] rows = new Row[SHELVES];
  private boolean imageTaken = false;

  public TwoToALocker() {
  }

  // ---- the school as told

  public int school(int d) {
    Row text = rowOn(d);
    if (text == null) {
      return whyNoRow(d);
    }
    if (text.sort != BYTES) {
      return OTHER_KIND;
    }
    int misfit = firstMisfit(text);
    if (misfit >= 0) {
      return FAULT_OF_BYTE - misfit;
    }
    trial.becomes(now);
    int statements = 0;
    int at = 0;
    while (at < text.size()) {
      if (!trial.carriesOut(text, at)) {
        return FAULT_OF_STATEMENT - at;
      }
      statements++;
      at += digitsBehind(text.at(at)) + 2;
    }
    now.becomes(trial);
    return statements;
  }

  public int pupil(int p, int what) {
    if (!now.hasPupil(p)) {
      return NO_SUCH;
    }
    One one = now.who[p];
    switch (what) {
      case 0: return one.kind();
      case 1: return one.figure;
      case 2: return now.hour[p];
      case 3: return now.place[p];
      case 4: return one.damp();
      case 5: return one.room();
      case 6: return now.mateOf(p);
      default: return NO_SUCH;
    }
  }

  public int locker(int l, int what) {
    if (!now.hasLocker(l)) {
      return NO_SUCH;
    }
    switch (what) {
      case 0: return now.far[l];
      case 1: return now.above[l];
      case 2: return now.keys[l];
      case 3: return now.howManyIn(l);
      default: return NO_SUCH;
    }
  }

  public int joins(int d, int hour) {
    if (!isShelf(d) || !isWithin(hour, 0, LAST_HOUR)) {
      return NO_SUCH;
    }
    One one = ones[d];
    return one == null ? whyNoOne(d) : now.join(one, hour);
  }

  public int stands(int far, int above) {
    return now.stand(far, above);
  }

  public int moves(int p, int l) {
    return now.move(p, l);
  }

  public int changes(int a, int b) {
    return now.change(a, b);
  }

  public int loses(int l) {
    return now.lose(l);
  }

  public int makes(int l) {
    return now.make(l);
  }

  // ---- who bears whom

  public int bears(int a, int b) {
    return now.hasPupil(a) && now.hasPupil(b) && a != b ? now.bearingOf(a, b) : NO_SUCH;
  }

  public int trouble(int p, int l) {
    return now.hasPupil(p) && now.hasLocker(l) ? now.troubleOf(p, l) : NO_SUCH;
  }

  public int content(int p) {
    return now.hasPupil(p) ? now.contentOf(p) : toldAbove(NO_SUCH);
  }

  public int clashes(int what) {
    if (!isWithin(what, 0, 1)) {
      return NO_SUCH;
    }
    return what == 0 ? now.howManyClash() : now.firstClash();
  }

  public int rather(int what) {
    if (!isWithin(what, 0, 1)) {
      return NO_SUCH;
    }
    return what == 0 ? now.howManyRather() : now.firstRather();
  }

  public int best(int i) {
    if (i != -1 && !now.hasPupil(i)) {
      return NO_SUCH;
    }
    ways.tryTwos(now, false);
    return i == -1 ? ways.greatestLiking : ways.chosen[i];
  }

  public int rests(int i) {
    if (i != -1 && !now.hasPupil(i)) {
      return NO_SUCH;
    }
    ways.tryTwos(now, true);
    if (i == -1) {
      return ways.restingWays;
    }
    return ways.restingWays == 0 ? NO_RESTING : ways.chosen[i];
  }

  public int placed() {
    return Ways.contentIn(ways.placeAll(now));
  }

  public int placedAt(int i) {
    return now.hasPupil(i) ? Ways.placeIn(ways.placeAll(now), i) : NO_SUCH;
  }

  // ---- changes, the list

  public int agreed() {
    int changes = changeWhileAgreed();
    return trial.firstAgreed() == NONE ? changes : NONE;
  }

  public int agreedContent() {
    changeWhileAgreed();
    return trial.contentOfAll();
  }

  public int list(int what) {
    if (!isWithin(what, 0, 1)) {
      return toldAbove(NO_SUCH);
    }
    trial.becomes(now);
    trial.sitByList();
    return what == 0 ? trial.contentOfAll() : Integer.bitCount(now.otherwiseThan(trial.place));
  }

  public int alone(int q) {
    return isWithin(q, 0, LAST_PRICE) ? now.howManyPay(q) : NO_SUCH;
  }

  public int price(int n) {
    if (n < 1) {
      return NO_SUCH;
    }
    for (int q = LAST_PRICE; q >= 0; q--) {
      if (now.howManyPay(q) >= n) {
        return q;
      }
    }
    return NONE;
  }

  public int otherwise(int p) {
    if (!now.hasPupil(p)) {
      return NO_SUCH;
    }
    int most = borneIfTold(p, now.who[p].figure);
    int best = NONE;
    for (int figure = 0; figure <= LAST_FIGURE; figure++) {
      int borne = borneIfTold(p, figure);
      if (borne > most) {
        most = borne;
        best = figure;
      }
    }
    return best;
  }

  public int hours(int what) {
    if (!isWithin(what, 0, 1)) {
      return NO_SUCH;
    }
    int hour = now.fullestHour();
    return what == 0 ? now.lockersWanted(hour) : hour;
  }

  public int envy(int p) {
    if (p == -1) {
      return now.envyOfAll();
    }
    return now.hasPupil(p) ? now.envyOf(p) : NO_SUCH;
  }

  // ---- keys, dents, turns

  public long gone(int l, int t, int n, int part) {
    boolean told = now.hasLocker(l) && isWithin(t, 2, 20) && isWithin(n, 1, 4) && isWithin(part, 0, 1);
    if (!told) {
      return toldAbove(NO_SUCH);
    }
    long all = power(t, n);
    // t and t - 1 have no common divisor, so neither have these two: the terms are the least already
    long lost = all - power(t - 1, n);
    return power(part == 0 ? lost : all, now.keys[l]);
  }

  public int dent(int p, int v, int law) {
    if (!now.hasPupil(p) || !isWithin(v, 0, 999) || !isWithin(law, 0, 2)) {
      return NO_SUCH;
    }
    return now.place[p] == IN_NONE ? NOT_SO : now.dentPaid(p, v, law);
  }

  public int turn(int what) {
    if (!isWithin(what, 0, 1)) {
      return NO_SUCH;
    }
    return what == 0 ? now.leastTroubled() : now.mostTroubled();
  }

  public int widowed(int what) {
    return isWithin(what, 0, 1) ? now.lockersWith(what == 0 ? 1 : 0) : NO_SUCH;
  }

  // ---- June, terms

  public int june(int d, int what) {
    if (!isShelf(d) || !isWithin(what, 0, 2)) {
      return NO_SUCH;
    }
    Row told = rowOn(d);
    if (told == null) {
      return whyNoRow(d);
    }
    if (told.size() != now.pupils || now.firstForged(told) != NONE) {
      return NO_PLACE;
    }
    int others = now.otherwiseThan(told.numbers);
    if (what == 0) {
      return others;
    }
    int first = now.changeThatLeadsTo(told.numbers, others);
    if (what == 2) {
      return first;
    }
    // a change moves just its two, so no second one leads to the same places
    return first == NONE ? 0 : 1;
  }

  public int forged(int d) {
    Row told = rowOn(d);
    return told == null ? whyNoRow(d) : now.firstForged(told);
  }

  public int judge(int d) {
    Row told = rowOn(d);
    if (told == null) {
      return whyNoRow(d);
    }
    trial.becomes(now);
    boolean ended = false;
    for (int i = 0; i < told.size(); i++) {
      if (i > 0 && !ended) {
        ended = i > MOST_AGREED || !trial.changeFirstAgreed();
      }
      if (told.at(i) != told.leastNumber() && (ended || told.at(i) != trial.contentOfAll())) {
        return i;
      }
    }
    return NONE;
  }

  public int terms(int n, int z, int what) {
    if (!isWithin(n, 1, MOST_TERMS) || !isWithin(what, 0, 1)) {
      return toldAbove(NO_SUCH);
    }
    if (now.pupils < 2) {
      return toldAbove(NOT_SO);
    }
    int sum = 0;
    int seed = z;
    for (int day = 0; day < n * DAYS_OF_A_TERM; day++) {
      if (day % DAYS_OF_A_TERM == 0) {
        trial.becomes(now);
      }
      int first = nextSeed(seed);
      seed = nextSeed(first);
      trial.change(drawn(first, now.pupils), drawn(seed, now.pupils));
      if (what == 1) {
        sum += trial.howManyClash();
      } else if (day % DAYS_OF_A_TERM == DAYS_OF_A_TERM - 1) {
        sum += trial.contentOfAll();
      }
    }
    return sum;
  }

  // ---- the image, what is told

  public int image() {
    imaged.becomes(now);
    imageTaken = true;
    return now.pence;
  }

  public int restore() {
    if (!imageTaken) {
      return NOT_SO;
    }
    now.becomes(imaged);
    return now.pence;
  }

  public int count(int what) {
    switch (what) {
      case 0: return now.pupils;
      case 1: return now.lockers;
      case 2: return now.pence;
      case 3: return now.allKeys();
      case 4: return now.whoIsInNone();
      case 5: return now.allRoom();
      default: return NO_SUCH;
    }
  }

  public int all() {
    return now.contentOfAll();
  }

  // ---- shelves

  public int keep(int d, int what, int k, int figure) {
    if (!isShelf(d) || !isWithin(what, 0, 1)) {
      return NO_SUCH;
    }
    One one = what == 1 ? oneOf(k, figure) : null;
    if (what == 1 && one == null) {
      return NO_SUCH;
    }
    ones[d] = one;
    rows[d] = null;
    return 0;
  }

  public int row(int d, int sort, int n) {
    if (!isShelf(d) || !isWithin(sort, BYTES, INTS) || n > MOST_ELEMENTS) {
      return NO_SUCH;
    }
    if (n < 0) {
      return SIZE_BELOW_NOUGHT;
    }
    ones[d] = null;
    rows[d] = new Row(sort, n);
    return 0;
  }

  public int put(int d, int i, int v) {
    Row row = rowOn(d);
    if (row == null) {
      return whyNoRow(d);
    }
    if (!row.has(i)) {
      return NO_PLACE;
    }
    row.numbers[i] = row.lowestBits(v);
    return 0;
  }

  public long element(int d, int i) throws IllegalArgumentException, IllegalStateException {
    if (!isShelf(d)) {
      throw new IllegalArgumentException("no such shelf");
    }
    Row row = rowOn(d);
    if (row == null || !row.has(i)) {
      throw new IllegalStateException("no row, or no such place");
    }
    return row.numbers[i];
  }

  public int copy(int d, int i, int e, int j, int n) {
    if (!isShelf(d) || !isShelf(e)) {
      return NO_SUCH;
    }
    if (isEmpty(d) || isEmpty(e)) {
      return NOTHING_HELD;
    }
    Row from = rowOn(d);
    Row to = rowOn(e);
    if (from == null || to == null || from.sort != to.sort) {
      return OTHER_KIND;
    }
    if (!from.hasRun(i, n) || !to.hasRun(j, n)) {
      return NO_PLACE;
    }
    System.arraycopy(from.numbers, i, to.numbers, j, n);
    return n;
  }

  public int cost(int d) {
    One one = oneOn(d);
    return one == null ? whyNoOne(d) : one.costs();
  }

  public int toss(int d) {
    One one = oneOn(d);
    if (one == null) {
      return whyNoOne(d);
    }
    try {
      one.fail();
    } catch (UnsupportedOperationException failureOfFussy) {
      return 200 + one.costs();
    } catch (IllegalStateException failureOfTidy) {
      return 100 + one.figure;
    } catch (IllegalArgumentException failure) {
      return one.figure;
    }
    return NO_FAILURE;
  }

  // ---- what the calls above share

  private static boolean isWithin(int number, int least, int greatest) {
    return number >= least && number <= greatest;
  }

  /** A refusal of a call whose ordinary answers may be below nought. */
  private static int toldAbove(int refusal) {
    return BILLION - refusal;
  }

  private static long power(long base, int exponent) {
    long product = 1;
    for (int i = 0; i < exponent; i++) {
      product *= base;
    }
    return product;
  }

  private static int nextSeed(int seed) {
    return seed * 1103515245 + 12345;
  }

  private static int drawn(int seed, int below) {
    return below > 0 ? (seed & ALL_BUT_THE_SIGN) / 65536 % below : 0;
  }

  private static boolean isShelf(int d) {
    return isWithin(d, 0, SHELVES - 1);
  }

  private boolean isEmpty(int d) {
    return oneOn(d) == null && rowOn(d) == null;
  }

  private Row rowOn(int d) {
    return isShelf(d) ? rows[d] : null;
  }

  private One oneOn(int d) {
    return isShelf(d) ? ones[d] : null;
  }

  private int whyNoRow(int d) {
    if (!isShelf(d)) {
      return NO_SUCH;
    }
    return ones[d] == null ? NOTHING_HELD : OTHER_KIND;
  }

  private int whyNoOne(int d) {
    if (!isShelf(d)) {
      return NO_SUCH;
    }
    return rows[d] == null ? NOTHING_HELD : OTHER_KIND;
  }

  /** How many digits stand behind a statement's letter; 0 if it is no letter of a statement. */
  private static int digitsBehind(int letter) {
    switch (letter) {
      case 'p': return 3;
      case 'l': case 'm': case 'x': return 2;
      case 'k': case 'n': return 1;
      default: return 0;
    }
  }

  /** The place of the first byte with which no text can go on (the end, if something lacks); -1 if there is none. */
  private static int firstMisfit(Row text) {
    int at = 0;
    while (at < text.size()) {
      int digits = digitsBehind(text.at(at));
      if (digits == 0) {
        return at;
      }
      int end = at + digits + 1;
      for (int i = at + 1; i < end; i++) {
        if (!isWithin(text.digitAt(i), 0, 9)) {
          return i;
        }
      }
      if (text.at(end) != ';') {
        return end;
      }
      at = end + 1;
    }
    return at == 0 ? 0 : -1;
  }

  /** Changes in the trial, from now on, all that both agree to: how many there were. */
  private int changeWhileAgreed() {
    trial.becomes(now);
    int changes = 0;
    while (changes < MOST_AGREED && trial.changeFirstAgreed()) {
      changes++;
    }
    return changes;
  }

  /** How well p truly bears the one whom p has by the best twos, if p tells that figure. */
  private int borneIfTold(int p, int figure) {
    One told = oneOf(now.who[p].kind(), figure);
    if (told == null) {
      return 0;
    }
    trial.becomes(now);
    trial.seat(told, p);
    ways.tryTwos(trial, false);
    return now.borneOf(p, ways.chosen[p]);
  }

  /** One of that kind with that figure; null if there is no such kind or figure. */
  private static One oneOf(int kind, int figure) {
    if (!isWithin(figure, 0, LAST_FIGURE)) {
      return null;
    }
    switch (kind) {
      case 0: return new One(figure);
      case 1: return new Wet(figure);
      case 2: return new Tidy(figure);
      case 3: return new Tall(figure);
      case 4: return new Fussy(figure);
      case 5: return new Smelly(figure);
      case 6: return new Loner(figure);
      case 7: return new Giant(figure);
      default: return null;
    }
  }

  /** One of kind PUPIL; a kind under it says only in what it is otherwise. */
  private static class One {
    final int figure;

    One(int figure) {
      this.figure = figure;
    }

    int kind() {
      return 0;
    }

    int damp() {
      return 0;
    }

    int room() {
      return 4;
    }

    int bearing(int otherFigure, int otherDamp) {
      return Math.max(0, 12 - Math.abs(otherFigure - figure) - otherDamp);
    }

    int troubleWith(int far, int above) {
      return above == 1 ? far + 2 : far;
    }

    int costs() {
      return 3;
    }

    /** Throws the failure of this one; returns if it has none. */
    void fail() {
      if (figure != 0) {
        throw new IllegalArgumentException("the failure of one");
      }
    }
  }

  private static class Wet extends One {
    Wet(int figure) {
      super(figure);
    }

    int kind() {
      return 1;
    }

    int damp() {
      return 3;
    }

    int room() {
      return super.room() + 2;
    }

    int bearing(int otherFigure, int otherDamp) {
      return super.bearing(otherFigure, otherDamp) + otherDamp;
    }

    int costs() {
      return super.costs() + 2;
    }

    void fail() {
    }
  }

  private static final class Smelly extends Wet {
    Smelly(int figure) {
      super(figure);
    }

    int kind() {
      return 5;
    }

    int damp() {
      return super.damp() + 3;
    }

    int costs() {
      return super.costs() / 2;
    }
  }

  private static class Tidy extends One {
    Tidy(int figure) {
      super(figure);
    }

    int kind() {
      return 2;
    }

    int room() {
      return super.room() - 1;
    }

    int bearing(int otherFigure, int otherDamp) {
      return Math.max(0, super.bearing(otherFigure, otherDamp) - otherDamp);
    }

    int costs() {
      return super.costs() + figure;
    }

    void fail() {
      if (figure != 0) {
        throw new IllegalStateException("the failure of a tidy one");
      }
    }
  }

  private static final class Fussy extends Tidy {
    Fussy(int figure) {
      super(figure);
    }

    int kind() {
      return 4;
    }

    int bearing(int otherFigure, int otherDamp) {
      return super.bearing(otherFigure, otherDamp) / 2;
    }

    int costs() {
      return super.costs() * 2;
    }

    void fail() {
      if (figure != 0) {
        throw new UnsupportedOperationException("the failure of a fussy one");
      }
    }
  }

  private static final class Loner extends Tidy {
    Loner(int figure) {
      super(figure);
    }

    int kind() {
      return 6;
    }

    int bearing(int otherFigure, int otherDamp) {
      return Math.max(0, super.bearing(otherFigure, otherDamp) - 3);
    }

    int costs() {
      return super.costs() + 2;
    }
  }

  private static class Tall extends One {
    Tall(int figure) {
      super(figure);
    }

    int kind() {
      return 3;
    }

    int room() {
      return super.room() + 1;
    }

    int bearing(int otherFigure, int otherDamp) {
      return super.bearing(otherFigure, otherDamp) + 2;
    }

    int troubleWith(int far, int above) {
      return above == 1 ? far : far + 3;
    }

    int costs() {
      return super.costs() + 1;
    }
  }

  private static final class Giant extends Tall {
    Giant(int figure) {
      super(figure);
    }

    int kind() {
      return 7;
    }

    int room() {
      return super.room() * 2;
    }

    int bearing(int otherFigure, int otherDamp) {
      return super.bearing(otherFigure, otherDamp) + 1;
    }

    int costs() {
      return super.costs() + figure;
    }
  }

  /** A row of numbers of one sort; its maker has looked at the size. */
  private static final class Row {
    final int sort;
    final int[] numbers;

    Row(int sort, int size) {
      this.sort = sort;
      this.numbers = new int[Math.max(0, size)];
    }

    int size() {
      return numbers.length;
    }

    boolean has(int i) {
      return i >= 0 && i < numbers.length;
    }

    /** Whether n elements from i on are there; said without a sum, which could wrap around. */
    boolean hasRun(int i, int n) {
      return i >= 0 && n >= 0 && i <= numbers.length && n <= numbers.length - i;
    }

    /** The number at a place; behind the end 0, which is no sign of a text. */
    int at(int i) {
      return has(i) ? numbers[i] : 0;
    }

    int digitAt(int i) {
      return at(i) - '0';
    }

    int lowestBits(int v) {
      switch (sort) {
        case BYTES: return (byte) v;
        case SHORTS: return (short) v;
        default: return v;
      }
    }

    int leastNumber() {
      switch (sort) {
        case BYTES: return -128;
        case SHORTS: return -32768;
        default: return LEAST_INT;
      }
    }
  }

  /** Pupils, lockers and pence: all that an image holds. */
  private static final class School {
    int pupils = 0;
    int lockers = 0;
    int pence = 0;
    final One[] who = new One[MOST_PUPILS];
    final int[] hour = new int[MOST_PUPILS];
    final int[] place = new int[MOST_PUPILS];
    /** How each bears each, kept because who is asked far more often than anybody joins. */
    final int[] bearing = new int[MOST_PUPILS * MOST_PUPILS];
    final int[] far = new int[MOST_LOCKERS];
    final int[] above = new int[MOST_LOCKERS];
    final int[] keys = new int[MOST_LOCKERS];

    School() {
      // so that no seat is ever null
      One nobody = new One(0);
      for (int p = 0; p < MOST_PUPILS; p++) {
        who[p] = nobody;
      }
    }

    void becomes(School other) {
      pupils = other.pupils;
      lockers = other.lockers;
      pence = other.pence;
      for (int p = 0; p < MOST_PUPILS; p++) {
        who[p] = other.who[p];
      }
      System.arraycopy(other.hour, 0, hour, 0, MOST_PUPILS);
      System.arraycopy(other.place, 0, place, 0, MOST_PUPILS);
      System.arraycopy(other.bearing, 0, bearing, 0, MOST_PUPILS * MOST_PUPILS);
      System.arraycopy(other.far, 0, far, 0, MOST_LOCKERS);
      System.arraycopy(other.above, 0, above, 0, MOST_LOCKERS);
      System.arraycopy(other.keys, 0, keys, 0, MOST_LOCKERS);
    }

    boolean hasPupil(int p) {
      return p >= 0 && p < pupils;
    }

    boolean hasLocker(int l) {
      return l >= 0 && l < lockers;
    }

    boolean hasPlace(int l) {
      return l == IN_NONE || hasLocker(l);
    }

    /** Does what a statement of a text tells; whether it could be done. */
    boolean carriesOut(Row text, int at) {
      int first = text.digitAt(at + 1);
      int second = text.digitAt(at + 2);
      switch (text.at(at)) {
        case 'p': return join(oneOf(first, second), text.digitAt(at + 3)) >= 0;
        case 'l': return stand(first, second) >= 0;
        case 'm': return move(first, second) >= 0;
        case 'x': return change(first, second) >= 0;
        case 'k': return lose(first) >= 0;
        default: return make(first) >= 0;
      }
    }

    int join(One one, int hourOfOne) {
      if (one == null || !isWithin(hourOfOne, 0, LAST_HOUR)) {
        return NO_SUCH;
      }
      if (pupils >= MOST_PUPILS) {
        return NO_ROOM;
      }
      int p = pupils;
      pupils++;
      hour[p] = hourOfOne;
      place[p] = IN_NONE;
      seat(one, p);
      return p;
    }

    /** Makes one the p-th and learns how it bears the others and they it. */
    void seat(One one, int p) {
      who[p] = one;
      for (int o = 0; o < pupils; o++) {
        One other = who[o];
        bearing[p * MOST_PUPILS + o] = one.bearing(other.figure, other.damp());
        bearing[o * MOST_PUPILS + p] = other.bearing(one.figure, one.damp());
      }
    }

    int stand(int howFar, int howAbove) {
      if (!isWithin(howFar, 0, 9) || !isWithin(howAbove, 0, 1)) {
        return NO_SUCH;
      }
      if (lockers >= MOST_LOCKERS) {
        return NO_ROOM;
      }
      int l = lockers;
      lockers++;
      far[l] = howFar;
      above[l] = howAbove;
      keys[l] = MOST_KEYS;
      return l;
    }

    int move(int p, int l) {
      if (!hasPupil(p) || !hasPlace(l)) {
        return NO_SUCH;
      }
      int was = place[p];
      if (l != IN_NONE && l != was && howManyIn(l) >= MOST_IN_ONE) {
        return NOT_SO;
      }
      place[p] = l;
      return was;
    }

    int change(int a, int b) {
      if (!hasPupil(a) || !hasPupil(b) || a == b) {
        return NO_SUCH;
      }
      int was = place[a];
      place[a] = place[b];
      place[b] = was;
      return place[a] == was ? 0 : 1;
    }

    int lose(int l) {
      if (!hasLocker(l)) {
        return NO_SUCH;
      }
      if (keys[l] <= 0) {
        return NOT_SO;
      }
      keys[l]--;
      return keys[l];
    }

    int make(int l) {
      if (!hasLocker(l)) {
        return NO_SUCH;
      }
      if (pence + PRICE_OF_KEYS > MOST_PENCE) {
        return NOT_SO;
      }
      keys[l] = MOST_KEYS;
      pence += PRICE_OF_KEYS;
      return pence;
    }

    int howManyIn(int l) {
      int inside = 0;
      for (int p = 0; p < pupils; p++) {
        if (place[p] == l) {
          inside++;
        }
      }
      return inside;
    }

    int mateOf(int p) {
      if (place[p] == IN_NONE) {
        return NONE;
      }
      for (int o = 0; o < pupils; o++) {
        if (o != p && place[o] == place[p]) {
          return o;
        }
      }
      return NONE;
    }

    int bearingOf(int a, int b) {
      return bearing[a * MOST_PUPILS + b];
    }

    int likingOf(int a, int b) {
      return bearingOf(a, b) + bearingOf(b, a);
    }

    /** How p bears a mate; 0 without one. */
    int borneOf(int p, int mate) {
      return mate < 0 ? 0 : bearing[p * MOST_PUPILS + mate];
    }

    int troubleOf(int p, int l) {
      return who[p].troubleWith(far[l], above[l]);
    }

    /** The content of p, were p in that place with that mate. */
    int contentWith(int p, int l, int mate) {
      if (!hasLocker(l)) {
        return CONTENT_IN_NONE;
      }
      int liked = mate < 0 ? CONTENT_ALONE : bearingOf(p, mate);
      return liked - who[p].troubleWith(far[l], above[l]);
    }

    int contentOf(int p) {
      return contentWith(p, place[p], mateOf(p));
    }

    int contentOfAll() {
      int sum = 0;
      for (int p = 0; p < pupils; p++) {
        sum += contentOf(p);
      }
      return sum;
    }

    /** Whether p is the lesser of two in one locker at one hour. */
    boolean leadsClash(int p) {
      int mate = mateOf(p);
      return mate > p && hour[mate] == hour[p];
    }

    int howManyClash() {
      int many = 0;
      for (int p = 0; p < pupils; p++) {
        if (leadsClash(p)) {
          many++;
        }
      }
      return many;
    }

    int firstClash() {
      for (int p = 0; p < pupils; p++) {
        if (leadsClash(p)) {
          return 10 * p + mateOf(p);
        }
      }
      return NONE;
    }

    /** Whether both would rather have one another than those mates. */
    boolean wouldRather(int a, int b, int mateOfA, int mateOfB) {
      return mateOfA != b
          && bearingOf(a, b) > borneOf(a, mateOfA)
          && bearingOf(b, a) > borneOf(b, mateOfB);
    }

    int howManyRather() {
      int many = 0;
      for (int a = 0; a < pupils; a++) {
        for (int b = a + 1; b < pupils; b++) {
          if (wouldRather(a, b, mateOf(a), mateOf(b))) {
            many++;
          }
        }
      }
      return many;
    }

    int firstRather() {
      for (int a = 0; a < pupils; a++) {
        for (int b = a + 1; b < pupils; b++) {
          if (wouldRather(a, b, mateOf(a), mateOf(b))) {
            return 10 * a + b;
          }
        }
      }
      return NONE;
    }

    /** Whether p would have more content in the place of o. */
    boolean envies(int p, int o) {
      return contentWith(p, place[o], mateOf(o)) > contentOf(p);
    }

    /** The first two to whom a change is a gain, 10 the lesser and the other; NONE. */
    int firstAgreed() {
      for (int a = 0; a < pupils; a++) {
        for (int b = a + 1; b < pupils; b++) {
          if (place[a] != place[b] && envies(a, b) && envies(b, a)) {
            return 10 * a + b;
          }
        }
      }
      return NONE;
    }

    boolean changeFirstAgreed() {
      int two = firstAgreed();
      return two != NONE && change(two / 10, two % 10) == 1;
    }

    void sitByList() {
      for (int p = 0; p < pupils; p++) {
        int l = p / MOST_IN_ONE;
        place[p] = hasLocker(l) ? l : IN_NONE;
      }
    }

    /** Who sits otherwise than by those places, as bits. */
    int otherwiseThan(int[] told) {
      int bits = 0;
      for (int p = 0; p < pupils && p < told.length; p++) {
        if (place[p] != told[p]) {
          bits |= 1 << p;
        }
      }
      return bits;
    }

    /** The first change of two that leads to the told places, from which those (bits) sit otherwise; NONE. */
    int changeThatLeadsTo(int[] told, int others) {
      for (int a = 0; a < pupils; a++) {
        for (int b = a + 1; b < pupils && b < told.length; b++) {
          boolean justThese = others == (1 << a | 1 << b);
          if (justThese && told[a] == place[b] && told[b] == place[a]) {
            return 10 * a + b;
          }
        }
      }
      return NONE;
    }

    int firstForged(Row told) {
      for (int i = 0; i < told.size(); i++) {
        int l = told.at(i);
        if (i >= pupils || !hasPlace(l) || (l != IN_NONE && countAhead(told, i) >= MOST_IN_ONE)) {
          return i;
        }
      }
      return NONE;
    }

    /** How many ahead of the i-th are told the place of the i-th. */
    private static int countAhead(Row told, int i) {
      int many = 0;
      for (int k = 0; k < i; k++) {
        if (told.at(k) == told.at(i)) {
          many++;
        }
      }
      return many;
    }

    int howManyPay(int q) {
      int many = 0;
      for (int p = 0; p < pupils; p++) {
        int mate = mateOf(p);
        if (mate >= 0 && contentWith(p, place[p], NONE) - contentOf(p) > q) {
          many++;
        }
      }
      return many;
    }

    int lockersWanted(int atHour) {
      int there = 0;
      for (int p = 0; p < pupils; p++) {
        if (hour[p] == atHour) {
          there++;
        }
      }
      return (there + MOST_IN_ONE - 1) / MOST_IN_ONE;
    }

    int fullestHour() {
      int fullest = 0;
      for (int h = 1; h <= LAST_HOUR; h++) {
        if (lockersWanted(h) > lockersWanted(fullest)) {
          fullest = h;
        }
      }
      return fullest;
    }

    int envyOf(int p) {
      int mate = mateOf(p);
      int many = 0;
      for (int o = 0; o < pupils; o++) {
        if (o != p && o != mate && envies(p, o)) {
          many++;
        }
      }
      return many;
    }

    int envyOfAll() {
      int sum = 0;
      for (int p = 0; p < pupils; p++) {
        sum += envyOf(p);
      }
      return sum;
    }

    int dentPaid(int p, int v, int law) {
      int mate = mateOf(p);
      if (mate < 0) {
        return v;
      }
      int ofLesser = partOfLesser(Math.min(p, mate), Math.max(p, mate), v, law);
      return p < mate ? ofLesser : v - ofLesser;
    }

    private int partOfLesser(int lesser, int greater, int v, int law) {
      int rooms = who[lesser].room() + who[greater].room();
      if (law == 1 && rooms > 0) {
        return v * who[lesser].room() / rooms;
      }
      int more = bearingOf(lesser, greater) - bearingOf(greater, lesser);
      if (law == 2 && more != 0) {
        return more < 0 ? v : 0;
      }
      return (v + 1) / 2;
    }

    int leastTroubled() {
      int least = NONE;
      for (int p = 0; p < pupils; p++) {
        if (hasLocker(place[p]) && (least < 0 || troubleNow(p) < troubleNow(least))) {
          least = p;
        }
      }
      return least;
    }

    int mostTroubled() {
      int most = NONE;
      for (int p = 0; p < pupils; p++) {
        if (hasLocker(place[p]) && (most < 0 || troubleNow(p) > troubleNow(most))) {
          most = p;
        }
      }
      return most;
    }

    private int troubleNow(int p) {
      return troubleOf(p, place[p]);
    }

    /** Lockers with just so many inside, as bits. */
    int lockersWith(int inside) {
      int bits = 0;
      for (int l = 0; l < lockers; l++) {
        if (howManyIn(l) == inside) {
          bits |= 1 << l;
        }
      }
      return bits;
    }

    int allKeys() {
      int sum = 0;
      for (int l = 0; l < lockers; l++) {
        sum += keys[l];
      }
      return sum;
    }

    int whoIsInNone() {
      int bits = 0;
      for (int p = 0; p < pupils; p++) {
        if (place[p] == IN_NONE) {
          bits |= 1 << p;
        }
      }
      return bits;
    }

    int allRoom() {
      int sum = 0;
      for (int p = 0; p < pupils; p++) {
        sum += who[p].room();
      }
      return sum;
    }
  }

  /** Tries all ways to put pupils in twos, and all ways to place them. */
  private static final class Ways {
    /** Said of one who has not been given a mate, nor been left alone, yet. */
    private static final int FREE = -9;
    /** Bits that tell the place of one pupil, and the bits below content in a worth. */
    private static final int BITS_OF_PLACE = 3;
    private static final int BITS_OF_PLACES = BITS_OF_PLACE * MOST_PUPILS;
    private static final long ALL_PLACES = (1L << BITS_OF_PLACES) - 1;
    /** Told in a worth of one who is in no locker: behind all lockers, as the first placing wants it. */
    private static final int LAST_PLACE = (1 << BITS_OF_PLACE) - 1;

    int greatestLiking = 0;
    int restingWays = 0;
    /** Whom each has by the first of the twos that were looked for. */
    final int[] chosen = new int[MOST_PUPILS];
    private boolean resting = false;
    private final int[] mate = new int[MOST_PUPILS];
    private final long[] worth = new long[1 << MOST_PUPILS];
    private final int[] troubles = new int[MOST_PUPILS];

    /** Finds the best twos or, if those are wanted, the resting ones. */
    void tryTwos(School whose, boolean wantResting) {
      resting = wantResting;
      greatestLiking = -1;
      restingWays = 0;
      for (int p = 0; p < MOST_PUPILS; p++) {
        mate[p] = FREE;
      }
      pairFrom(whose, 0, 0);
    }

    /** Gives the first free one from there on each mate that it can have, in order; nobody comes last. */
    private void pairFrom(School whose, int from, int liking) {
      int a = from;
      while (a < whose.pupils && mate[a] != FREE) {
        a++;
      }
      if (a >= whose.pupils) {
        lookAtTwos(whose, liking);
        return;
      }
      for (int b = a + 1; b < whose.pupils; b++) {
        if (mate[b] == FREE) {
          mate[a] = b;
          mate[b] = a;
          pairFrom(whose, a + 1, liking + whose.likingOf(a, b));
          mate[b] = FREE;
        }
      }
      if (whose.pupils % 2 == 1 && !someoneIsAlone()) {
        mate[a] = NONE;
        pairFrom(whose, a + 1, liking);
      }
      mate[a] = FREE;
    }

    private boolean someoneIsAlone() {
      for (int p = 0; p < MOST_PUPILS; p++) {
        if (mate[p] == NONE) {
          return true;
        }
      }
      return false;
    }

    private void lookAtTwos(School whose, int liking) {
      if (!resting && liking > greatestLiking) {
        greatestLiking = liking;
        choose();
      }
      if (resting && doRest(whose)) {
        if (restingWays == 0) {
          choose();
        }
        restingWays++;
      }
    }

    private void choose() {
      System.arraycopy(mate, 0, chosen, 0, MOST_PUPILS);
    }

    private boolean doRest(School whose) {
      for (int a = 0; a < whose.pupils; a++) {
        for (int b = a + 1; b < whose.pupils; b++) {
          if (whose.wouldRather(a, b, mate[a], mate[b])) {
            return false;
          }
        }
      }
      return true;
    }

    /**
     * The greatest worth of a placing of all. A worth has content in its upper bits, less the places
     * in its lower ones (those of lesser pupils higher), so that of placings with one content the
     * first is worth most; and worths of pupils placed apart can simply be added.
     */
    long placeAll(School whose) {
      int everybody = (1 << whose.pupils) - 1;
      for (int set = 0; set <= everybody; set++) {
        worth[set] = worthInNone(set);
      }
      for (int l = 0; l < whose.lockers; l++) {
        for (int p = 0; p < whose.pupils; p++) {
          troubles[p] = whose.troubleOf(p, l);
        }
        // from the greatest set down: the lesser ones that it asks must not have this locker yet
        for (int set = everybody; set > 0; set--) {
          worth[set] = worthWithLocker(whose, l, set);
        }
      }
      return worth[everybody];
    }

    private static boolean isIn(int set, int p) {
      return (set >> p & 1) == 1;
    }

    private static int without(int set, int p) {
      return set & ~(1 << p);
    }

    private static long worthOf(int content) {
      return (long) content << BITS_OF_PLACES;
    }

    private static int shiftOf(int p) {
      return BITS_OF_PLACE * (MOST_PUPILS - 1 - p);
    }

    private static long lessPlace(int place, int p) {
      return -((long) place << shiftOf(p));
    }

    private static long worthInNone(int set) {
      long sum = 0;
      for (int p = 0; p < MOST_PUPILS; p++) {
        if (isIn(set, p)) {
          sum += worthOf(CONTENT_IN_NONE) + lessPlace(LAST_PLACE, p);
        }
      }
      return sum;
    }

    /** What a set is worth if, beside the lockers up to now, it may use this one. */
    private long worthWithLocker(School whose, int l, int set) {
      long most = worth[set];
      for (int a = 0; a < whose.pupils; a++) {
        if (isIn(set, a)) {
          int left = without(set, a);
          long alone = worthOf(CONTENT_ALONE - troubles[a]) + lessPlace(l, a);
          most = Math.max(most, worth[left] + alone);
          for (int b = a + 1; b < whose.pupils; b++) {
            if (isIn(left, b)) {
              int content = whose.likingOf(a, b) - troubles[a] - troubles[b];
              long both = worthOf(content) + lessPlace(l, a) + lessPlace(l, b);
              most = Math.max(most, worth[without(left, b)] + both);
            }
          }
        }
      }
      return most;
    }

    static int contentIn(long worth) {
      return (int) (worth + ALL_PLACES >> BITS_OF_PLACES);
    }

    static int placeIn(long worth, int p) {
      int place = (int) (-worth >> shiftOf(p)) & LAST_PLACE;
      return place == LAST_PLACE ? IN_NONE : place;
    }
  }
}
