import java.math.BigInteger;
import java.util.ArrayList;
import java.util.Arrays;
import java.util.List;
import java.util.regex.Matcher;
import java.util.regex.Pattern;

/** The document once more, as slow and as literal as can be, to hold the class against. */
final class Oracle {
  static final int IAE = 1;
  static final int ISE = 2;
  private static final int[] UNDER = {-1, 0, 0, 0, 2, 1, 2, 3};

  /** Pupils are {kind, figure, hour, in}, lockers {far, above, keys}. */
  private List<int[]> pupils = new ArrayList<>();
  private List<int[]> lockers = new ArrayList<>();
  private int pence = 0;
  private List<int[]> imagePupils = null;
  private List<int[]> imageLockers = null;
  private int imagePence = 0;
  /** Null, an Integer (ten times the kind and the figure), or {sort, elements}. */
  private final Object[] shelf = new Object[8];
  /** What element() would throw; 0 nothing. */
  int thrown = 0;

  // ---- kinds

  static int damp(int k) {
    return k == 0 ? 0 : k == 1 ? 3 : k == 5 ? damp(1) + 3 : damp(UNDER[k]);
  }

  static int room(int k) {
    switch (k) {
      case 0: return 4;
      case 1: return room(0) + 2;
      case 2: return room(0) - 1;
      case 3: return room(0) + 1;
      case 7: return 2 * room(3);
      default: return room(UNDER[k]);
    }
  }

  static int bears(int k, int f, int g, int d) {
    int v;
    switch (k) {
      case 0: v = 12 - Math.abs(g - f) - d; break;
      case 1: v = bears(0, f, g, d) + d; break;
      case 2: v = bears(0, f, g, d) - d; break;
      case 3: v = bears(0, f, g, d) + 2; break;
      case 4: v = bears(2, f, g, d) / 2; break;
      case 5: v = bears(1, f, g, d); break;
      case 6: v = bears(2, f, g, d) - 3; break;
      default: v = bears(3, f, g, d) + 1; break;
    }
    return v < 0 ? 0 : v;
  }

  static int trouble(int k, int far, int above) {
    switch (k) {
      case 0: return above == 1 ? far + 2 : far;
      case 3: return above == 0 ? far + 3 : far;
      default: return trouble(UNDER[k], far, above);
    }
  }

  static int cost(int k, int f) {
    switch (k) {
      case 0: return 3;
      case 1: return cost(0, f) + 2;
      case 2: return cost(0, f) + f;
      case 3: return cost(0, f) + 1;
      case 4: return 2 * cost(2, f);
      case 5: return cost(1, f) / 2;
      case 6: return cost(2, f) + 2;
      default: return cost(3, f) + f;
    }
  }

  // ---- pieces

  private static List<int[]> deep(List<int[]> list) {
    List<int[]> out = new ArrayList<>();
    for (int[] one : list) {
      out.add(one.clone());
    }
    return out;
  }

  private boolean noPupil(int p) {
    return p < 0 || p >= pupils.size();
  }

  private boolean noLocker(int l) {
    return l < 0 || l >= lockers.size();
  }

  private int n() {
    return pupils.size();
  }

  private int borne(int a, int b) {
    int[] x = pupils.get(a);
    int[] y = pupils.get(b);
    return bears(x[0], x[1], y[1], damp(y[0]));
  }

  private int[] places() {
    int[] in = new int[n()];
    for (int p = 0; p < n(); p++) {
      in[p] = pupils.get(p)[3];
    }
    return in;
  }

  private static int mate(int[] in, int p) {
    for (int o = 0; o < in.length; o++) {
      if (o != p && in[o] == in[p] && in[p] != 9) {
        return o;
      }
    }
    return -4;
  }

  private int troubleAt(int p, int l) {
    return trouble(pupils.get(p)[0], lockers.get(l)[0], lockers.get(l)[1]);
  }

  private int contentBy(int[] in, int p) {
    if (in[p] == 9) {
      return -20;
    }
    int m = mate(in, p);
    return (m < 0 ? 12 : borne(p, m)) - troubleAt(p, in[p]);
  }

  private int allBy(int[] in) {
    int sum = 0;
    for (int p = 0; p < in.length; p++) {
      sum += contentBy(in, p);
    }
    return sum;
  }

  private static int[] swapped(int[] in, int a, int b) {
    int[] out = in.clone();
    out[a] = in[b];
    out[b] = in[a];
    return out;
  }

  private int clashesBy(int[] in) {
    int many = 0;
    for (int a = 0; a < in.length; a++) {
      for (int b = a + 1; b < in.length; b++) {
        if (in[a] != 9 && in[a] == in[b] && pupils.get(a)[2] == pupils.get(b)[2]) {
          many++;
        }
      }
    }
    return many;
  }

  private List<Integer> ratherBy(int[] mates) {
    List<Integer> out = new ArrayList<>();
    for (int a = 0; a < n(); a++) {
      for (int b = a + 1; b < n(); b++) {
        int ma = mates[a] < 0 ? 0 : borne(a, mates[a]);
        int mb = mates[b] < 0 ? 0 : borne(b, mates[b]);
        if (mates[a] != b && borne(a, b) > ma && borne(b, a) > mb) {
          out.add(10 * a + b);
        }
      }
    }
    return out;
  }

  /** All twos, sorted by whom 0, 1, .. have (nobody, told as 99 for it, last). */
  private static List<int[]> allTwos(int n) {
    List<int[]> out = new ArrayList<>();
    int[] has = new int[n];
    int many = (int) Math.pow(n + 1, n);
    if (n <= 6) {
      // every table of whom each has, most of them nonsense and thrown away
      for (int code = 0; code < many; code++) {
        int rest = code;
        for (int p = n - 1; p >= 0; p--) {
          has[p] = rest % (n + 1);
          rest /= n + 1;
        }
        if (isTwos(has)) {
          out.add(has.clone());
        }
      }
    } else {
      Arrays.fill(has, -1);
      extend(has, out);
      out.sort(Arrays::compare);
    }
    for (int[] twos : out) {
      for (int p = 0; p < n; p++) {
        twos[p] = twos[p] == n ? -4 : twos[p];
      }
    }
    return out;
  }

  private static boolean isTwos(int[] has) {
    int alone = 0;
    for (int p = 0; p < has.length; p++) {
      if (has[p] == has.length) {
        alone++;
      } else if (has[p] == p || has[has[p]] != p) {
        return false;
      }
    }
    return alone == has.length % 2;
  }

  /** From the greatest down, so that the order found has nothing to do with the order wanted. */
  private static void extend(int[] has, List<int[]> out) {
    int p = has.length - 1;
    while (p >= 0 && has[p] >= 0) {
      p--;
    }
    if (p < 0) {
      if (isTwos(has)) {
        out.add(has.clone());
      }
      return;
    }
    has[p] = has.length;
    extend(has, out);
    for (int o = 0; o < p; o++) {
      if (has[o] < 0) {
        has[p] = o;
        has[o] = p;
        extend(has, out);
        has[o] = -1;
      }
    }
    has[p] = -1;
  }

  private int likingOf(int[] twos) {
    int sum = 0;
    for (int p = 0; p < twos.length; p++) {
      sum += twos[p] < 0 ? 0 : borne(p, twos[p]);
    }
    return sum;
  }

  private int[] bestTwos() {
    int[] best = null;
    for (int[] twos : allTwos(n())) {
      if (best == null || likingOf(twos) > likingOf(best)) {
        best = twos;
      }
    }
    return best;
  }

  private List<int[]> restingTwos() {
    List<int[]> out = new ArrayList<>();
    for (int[] twos : allTwos(n())) {
      if (ratherBy(twos).isEmpty()) {
        out.add(twos);
      }
    }
    return out;
  }

  private int[] placedBest;
  private int placedContent;

  private void place() {
    placedBest = null;
    placeFrom(new int[n()], 0);
  }

  private void placeFrom(int[] in, int p) {
    if (p == in.length) {
      int content = allBy(in);
      if (placedBest == null || content > placedContent) {
        placedBest = in.clone();
        placedContent = content;
      }
      return;
    }
    for (int l = 0; l <= lockers.size(); l++) {
      int ahead = 0;
      for (int o = 0; o < p; o++) {
        ahead += in[o] == l ? 1 : 0;
      }
      if (l == lockers.size() || ahead < 2) {
        in[p] = l == lockers.size() ? 9 : l;
        placeFrom(in, p + 1);
      }
    }
  }

  private int[] nextAgreed(int[] in) {
    for (int a = 0; a < n(); a++) {
      for (int b = a + 1; b < n(); b++) {
        int[] then = swapped(in, a, b);
        if (in[a] != in[b] && contentBy(then, a) > contentBy(in, a) && contentBy(then, b) > contentBy(in, b)) {
          return then;
        }
      }
    }
    return null;
  }

  /** The places behind 0, 1, .. changes, 60 changes at most. */
  private List<int[]> agreedPlaces() {
    List<int[]> out = new ArrayList<>();
    int[] in = places();
    while (in != null && out.size() <= 60) {
      out.add(in);
      in = nextAgreed(in);
    }
    return out;
  }

  private int[] rowOf(int d) {
    return (int[]) shelf[d];
  }

  private int refusedRow(int d) {
    return d < 0 || d > 7 ? -1 : shelf[d] == null ? -11 : shelf[d] instanceof int[] ? 0 : -12;
  }

  private int refusedOne(int d) {
    return d < 0 || d > 7 ? -1 : shelf[d] == null ? -11 : shelf[d] instanceof int[] ? -12 : 0;
  }

  // ---- the face

  int school(int d) {
    int refused = refusedRow(d);
    if (refused != 0) {
      return refused;
    }
    if (rowOf(d)[0] != 0) {
      return -12;
    }
    StringBuilder text = new StringBuilder();
    for (int i = 1; i < rowOf(d).length; i++) {
      text.append((char) (rowOf(d)[i] & 255));
    }
    String one = "p[0-9]{3};|[lmx][0-9]{2};|[kn][0-9];";
    if (!Pattern.matches("(?:" + one + ")+", text)) {
      return -1000 - longestStart(text.toString(), one);
    }
    List<int[]> wasPupils = deep(pupils);
    List<int[]> wasLockers = deep(lockers);
    int wasPence = pence;
    Matcher m = Pattern.compile(one).matcher(text);
    int many = 0;
    while (m.find()) {
      if (!tell(m.group())) {
        pupils = wasPupils;
        lockers = wasLockers;
        pence = wasPence;
        return -2000 - m.start();
      }
      many++;
    }
    return many;
  }

  /** How many bytes can stand at the start of a text at most. */
  private static int longestStart(String text, String one) {
    for (int end = text.length(); end > 0; end--) {
      Matcher m = Pattern.compile("(?:" + one + ")+").matcher(text.substring(0, end));
      if (m.matches() || m.hitEnd() && startsOnly(text.substring(0, end), one)) {
        return end;
      }
    }
    return 0;
  }

  private static boolean startsOnly(String text, String one) {
    for (String tail : new String[] {"", ";", "0;", "00;", "000;"}) {
      if (Pattern.matches("(?:" + one + ")+", text + tail)) {
        return true;
      }
    }
    return false;
  }

  private boolean tell(String s) {
    int a = s.charAt(1) - '0';
    int b = s.length() > 3 ? s.charAt(2) - '0' : 0;
    int c = s.length() > 4 ? s.charAt(3) - '0' : 0;
    switch (s.charAt(0)) {
      case 'p':
        if (a > 7 || c > 5 || n() == 8) {
          return false;
        }
        pupils.add(new int[] {a, b, c, 9});
        return true;
      case 'l': return stands(a, b) >= 0;
      case 'm': return moves(a, b) >= 0;
      case 'x': return changes(a, b) >= 0;
      case 'k': return loses(a) >= 0;
      default: return makes(a) >= 0;
    }
  }

  int pupil(int p, int what) {
    if (noPupil(p) || what < 0 || what > 6) {
      return -1;
    }
    int[] one = pupils.get(p);
    return what < 4 ? one[what] : what == 4 ? damp(one[0]) : what == 5 ? room(one[0]) : mate(places(), p);
  }

  int locker(int l, int what) {
    if (noLocker(l) || what < 0 || what > 3) {
      return -1;
    }
    return what < 3 ? lockers.get(l)[what] : (int) Arrays.stream(places()).filter(x -> x == l).count();
  }

  int joins(int d, int hour) {
    if (hour < 0 || hour > 5) {
      return -1;
    }
    int refused = refusedOne(d);
    if (refused != 0) {
      return refused;
    }
    if (n() == 8) {
      return -2;
    }
    int one = (Integer) shelf[d];
    pupils.add(new int[] {one / 10, one % 10, hour, 9});
    return n() - 1;
  }

  int stands(int far, int above) {
    if (far < 0 || far > 9 || above < 0 || above > 1) {
      return -1;
    }
    if (lockers.size() == 5) {
      return -2;
    }
    lockers.add(new int[] {far, above, 2});
    return lockers.size() - 1;
  }

  int moves(int p, int l) {
    if (noPupil(p) || (noLocker(l) && l != 9)) {
      return -1;
    }
    int was = pupils.get(p)[3];
    if (l != 9 && was != l && locker(l, 3) == 2) {
      return -3;
    }
    pupils.get(p)[3] = l;
    return was;
  }

  int changes(int a, int b) {
    if (noPupil(a) || noPupil(b) || a == b) {
      return -1;
    }
    int[] then = swapped(places(), a, b);
    int answer = then[a] == then[b] ? 0 : 1;
    pupils.get(a)[3] = then[a];
    pupils.get(b)[3] = then[b];
    return answer;
  }

  int loses(int l) {
    return noLocker(l) ? -1 : lockers.get(l)[2] == 0 ? -3 : --lockers.get(l)[2];
  }

  int makes(int l) {
    if (noLocker(l)) {
      return -1;
    }
    if (pence > 9994) {
      return -3;
    }
    lockers.get(l)[2] = 2;
    return pence += 5;
  }

  int bears(int a, int b) {
    return noPupil(a) || noPupil(b) || a == b ? -1 : borne(a, b);
  }

  int trouble(int p, int l) {
    return noPupil(p) || noLocker(l) ? -1 : troubleAt(p, l);
  }

  int content(int p) {
    return noPupil(p) ? 1000000001 : contentBy(places(), p);
  }

  int clashes(int what) {
    if (what != 0 && what != 1) {
      return -1;
    }
    if (what == 0) {
      return clashesBy(places());
    }
    for (int code = 1; code < 78; code++) {
      int a = code / 10;
      int b = code % 10;
      if (a < b && b < n() && pupil(a, 6) == b && pupil(a, 2) == pupil(b, 2)) {
        return code;
      }
    }
    return -4;
  }

  private int[] mates() {
    int[] mates = new int[n()];
    for (int p = 0; p < n(); p++) {
      mates[p] = mate(places(), p);
    }
    return mates;
  }

  int rather(int what) {
    if (what != 0 && what != 1) {
      return -1;
    }
    List<Integer> twos = ratherBy(mates());
    return what == 0 ? twos.size() : twos.isEmpty() ? -4 : twos.get(0);
  }

  int best(int i) {
    if (i < -1 || i >= n()) {
      return -1;
    }
    int[] best = bestTwos();
    return i < 0 ? likingOf(best) : best[i];
  }

  int rests(int i) {
    if (i < -1 || i >= n()) {
      return -1;
    }
    List<int[]> twos = restingTwos();
    return i < 0 ? twos.size() : twos.isEmpty() ? -5 : twos.get(0)[i];
  }

  int placed() {
    place();
    return placedContent;
  }

  int placedAt(int i) {
    if (noPupil(i)) {
      return -1;
    }
    place();
    return placedBest[i];
  }

  int agreed() {
    List<int[]> all = agreedPlaces();
    return nextAgreed(all.get(all.size() - 1)) != null ? -4 : all.size() - 1;
  }

  int agreedContent() {
    List<int[]> all = agreedPlaces();
    return allBy(all.get(all.size() - 1));
  }

  int list(int what) {
    if (what != 0 && what != 1) {
      return 1000000001;
    }
    int[] in = new int[n()];
    int others = 0;
    for (int p = 0; p < n(); p++) {
      in[p] = noLocker(p / 2) ? 9 : p / 2;
      others += in[p] == places()[p] ? 0 : 1;
    }
    return what == 0 ? allBy(in) : others;
  }

  int alone(int q) {
    if (q < 0 || q > 99) {
      return -1;
    }
    int many = 0;
    for (int p = 0; p < n(); p++) {
      int m = mate(places(), p);
      if (m >= 0) {
        int[] without = places();
        without[m] = 9;
        many += contentBy(without, p) > contentBy(places(), p) + q ? 1 : 0;
      }
    }
    return many;
  }

  int price(int n) {
    if (n < 1) {
      return -1;
    }
    int most = -4;
    for (int q = 0; q <= 99; q++) {
      most = alone(q) >= n ? q : most;
    }
    return most;
  }

  int otherwise(int p) {
    if (noPupil(p)) {
      return -1;
    }
    int own = pupils.get(p)[1];
    int[] got = new int[10];
    for (int f = 0; f < 10; f++) {
      pupils.get(p)[1] = f;
      int m = bestTwos()[p];
      pupils.get(p)[1] = own;
      got[f] = m < 0 ? 0 : borne(p, m);
    }
    int most = Arrays.stream(got).max().getAsInt();
    for (int f = 0; f < 10; f++) {
      if (got[f] == most && most > got[own]) {
        return f;
      }
    }
    return -4;
  }

  int hours(int what) {
    if (what != 0 && what != 1) {
      return -1;
    }
    int[] there = new int[6];
    for (int[] one : pupils) {
      there[one[2]]++;
    }
    int most = 0;
    for (int many : there) {
      most = Math.max(most, many / 2 + many % 2);
    }
    for (int h = 0; h < 6; h++) {
      if (there[h] / 2 + there[h] % 2 == most) {
        return what == 0 ? most : h;
      }
    }
    return -99;
  }

  int envy(int p) {
    if (p == -1) {
      int sum = 0;
      for (int o = 0; o < n(); o++) {
        sum += envy(o);
      }
      return sum;
    }
    if (noPupil(p)) {
      return -1;
    }
    int many = 0;
    for (int o = 0; o < n(); o++) {
      if (o != p && o != mate(places(), p)) {
        many += contentBy(swapped(places(), p, o), p) > contentBy(places(), p) ? 1 : 0;
      }
    }
    return many;
  }

  long gone(int l, int t, int n, int part) {
    if (noLocker(l) || t < 2 || t > 20 || n < 1 || n > 4 || part < 0 || part > 1) {
      return 1000000001L;
    }
    BigInteger all = BigInteger.valueOf(t).pow(n);
    BigInteger lost = all.subtract(BigInteger.valueOf(t - 1).pow(n));
    BigInteger above = lost.pow(lockers.get(l)[2]);
    BigInteger below = all.pow(lockers.get(l)[2]);
    BigInteger common = above.gcd(below);
    return (part == 0 ? above : below).divide(common).longValueExact();
  }

  int dent(int p, int v, int law) {
    if (noPupil(p) || v < 0 || v > 999 || law < 0 || law > 2) {
      return -1;
    }
    if (pupils.get(p)[3] == 9) {
      return -3;
    }
    int m = mate(places(), p);
    if (m < 0) {
      return v;
    }
    if (law == 1) {
      int first = v * room(pupils.get(Math.min(p, m))[0]) / (room(pupils.get(p)[0]) + room(pupils.get(m)[0]));
      return p < m ? first : v - first;
    }
    if (law == 2 && borne(p, m) != borne(m, p)) {
      return borne(p, m) < borne(m, p) ? v : 0;
    }
    return p < m ? v - v / 2 : v / 2;
  }

  int turn(int what) {
    if (what != 0 && what != 1) {
      return -1;
    }
    int who = -4;
    for (int p = n() - 1; p >= 0; p--) {
      int l = pupils.get(p)[3];
      if (l != 9) {
        int t = troubleAt(p, l);
        int had = who < 0 ? t : troubleAt(who, pupils.get(who)[3]);
        who = what == 0 ? (t <= had ? p : who) : (t >= had ? p : who);
      }
    }
    return who;
  }

  int widowed(int what) {
    if (what != 0 && what != 1) {
      return -1;
    }
    int bits = 0;
    for (int l = 0; l < lockers.size(); l++) {
      bits += locker(l, 3) == 1 - what ? 1 << l : 0;
    }
    return bits;
  }

  int june(int d, int what) {
    if (what < 0 || what > 2) {
      return -1;
    }
    int refused = refusedRow(d);
    if (refused != 0) {
      return refused;
    }
    int[] told = Arrays.copyOfRange(rowOf(d), 1, rowOf(d).length);
    if (forged(d) != -4 || told.length != n()) {
      return -13;
    }
    int[] in = places();
    int bits = 0;
    List<Integer> lead = new ArrayList<>();
    for (int a = 0; a < n(); a++) {
      bits += in[a] == told[a] ? 0 : 1 << a;
      for (int b = a + 1; b < n(); b++) {
        if (in[a] != in[b] && Arrays.equals(swapped(in, a, b), told)) {
          lead.add(10 * a + b);
        }
      }
    }
    return what == 0 ? bits : what == 1 ? lead.size() : lead.isEmpty() ? -4 : lead.get(0);
  }

  int forged(int d) {
    int refused = refusedRow(d);
    if (refused != 0) {
      return refused;
    }
    int[] inside = new int[5];
    for (int i = 0; i < rowOf(d).length - 1; i++) {
      int l = rowOf(d)[i + 1];
      if (i >= n() || (noLocker(l) && l != 9) || (l != 9 && ++inside[l] == 3)) {
        return i;
      }
    }
    return -4;
  }

  int judge(int d) {
    int refused = refusedRow(d);
    if (refused != 0) {
      return refused;
    }
    int least = new int[] {Byte.MIN_VALUE, Short.MIN_VALUE, Integer.MIN_VALUE}[rowOf(d)[0]];
    List<int[]> all = agreedPlaces();
    for (int i = 0; i < rowOf(d).length - 1; i++) {
      int v = rowOf(d)[i + 1];
      if (v != least && (i >= all.size() || v != allBy(all.get(i)))) {
        return i;
      }
    }
    return -4;
  }

  int terms(int n, int z, int what) {
    if (n < 1 || n > 20 || what < 0 || what > 1) {
      return 1000000001;
    }
    if (n() < 2) {
      return 1000000003;
    }
    long[] seed = {z};
    int content = 0;
    int clashes = 0;
    for (int term = 0; term < n; term++) {
      int[] in = places();
      for (int day = 0; day < 10; day++) {
        int a = draw(seed, n());
        int b = draw(seed, n());
        in = swapped(in, a, b);
        clashes += clashesBy(in);
      }
      content += allBy(in);
    }
    return what == 0 ? content : clashes;
  }

  private static int draw(long[] seed, int n) {
    BigInteger next = BigInteger.valueOf(seed[0]).multiply(BigInteger.valueOf(1103515245L)).add(BigInteger.valueOf(12345));
    seed[0] = next.intValue();
    return (int) (next.mod(BigInteger.TWO.pow(31)).longValue() / 65536 % n);
  }

  int image() {
    imagePupils = deep(pupils);
    imageLockers = deep(lockers);
    imagePence = pence;
    return pence;
  }

  int restore() {
    if (imagePupils == null) {
      return -3;
    }
    pupils = deep(imagePupils);
    lockers = deep(imageLockers);
    pence = imagePence;
    return pence;
  }

  int count(int what) {
    int sum = 0;
    switch (what) {
      case 0: return n();
      case 1: return lockers.size();
      case 2: return pence;
      case 3:
        for (int[] locker : lockers) {
          sum += locker[2];
        }
        return sum;
      case 4:
        for (int p = 0; p < n(); p++) {
          sum += pupils.get(p)[3] == 9 ? 1 << p : 0;
        }
        return sum;
      case 5:
        for (int[] one : pupils) {
          sum += room(one[0]);
        }
        return sum;
      default: return -1;
    }
  }

  int all() {
    return allBy(places());
  }

  int keep(int d, int what, int k, int figure) {
    if (d < 0 || d > 7 || what < 0 || what > 1) {
      return -1;
    }
    if (what == 1 && (k < 0 || k > 7 || figure < 0 || figure > 9)) {
      return -1;
    }
    shelf[d] = what == 0 ? null : Integer.valueOf(10 * k + figure);
    return 0;
  }

  int row(int d, int sort, int n) {
    if (d < 0 || d > 7 || sort < 0 || sort > 2 || n > 100) {
      return -1;
    }
    if (n < 0) {
      return -14;
    }
    int[] row = new int[n + 1];
    row[0] = sort;
    shelf[d] = row;
    return 0;
  }

  int put(int d, int i, int v) {
    int refused = refusedRow(d);
    if (refused != 0) {
      return refused;
    }
    if (i < 0 || i >= rowOf(d).length - 1) {
      return -13;
    }
    int sort = rowOf(d)[0];
    rowOf(d)[i + 1] = sort == 0 ? (byte) v : sort == 1 ? (short) v : v;
    return 0;
  }

  long element(int d, int i) {
    thrown = 0;
    if (d < 0 || d > 7) {
      thrown = IAE;
    } else if (refusedRow(d) != 0 || i < 0 || i >= rowOf(d).length - 1) {
      thrown = ISE;
    }
    return thrown == 0 ? rowOf(d)[i + 1] : 0;
  }

  int copy(int d, int i, int e, int j, int n) {
    if (d < 0 || d > 7 || e < 0 || e > 7) {
      return -1;
    }
    if (shelf[d] == null || shelf[e] == null) {
      return -11;
    }
    if (refusedRow(d) != 0 || refusedRow(e) != 0 || rowOf(d)[0] != rowOf(e)[0]) {
      return -12;
    }
    long sizeD = rowOf(d).length - 1;
    long sizeE = rowOf(e).length - 1;
    if (i < 0 || j < 0 || n < 0 || (long) i + n > sizeD || (long) j + n > sizeE) {
      return -13;
    }
    int[] from = rowOf(d).clone();
    for (int k = 0; k < n; k++) {
      rowOf(e)[j + 1 + k] = from[i + 1 + k];
    }
    return n;
  }

  int cost(int d) {
    int refused = refusedOne(d);
    return refused != 0 ? refused : cost((Integer) shelf[d] / 10, (Integer) shelf[d] % 10);
  }

  int toss(int d) {
    int refused = refusedOne(d);
    if (refused != 0) {
      return refused;
    }
    int k = (Integer) shelf[d] / 10;
    int f = (Integer) shelf[d] % 10;
    if (k == 1 || k == 5 || f == 0) {
      return -15;
    }
    return k == 4 ? 200 + cost(k, f) : k == 2 || k == 6 ? 100 + f : f;
  }
}
