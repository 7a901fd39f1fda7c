import java.math.BigInteger;
import java.util.ArrayList;
import java.util.Arrays;
import java.util.Collections;
import java.util.Comparator;
import java.util.HashMap;
import java.util.List;
import java.util.Map;
import java.util.regex.Matcher;
import java.util.regex.Pattern;

/**
 * The document once more, written another way than the class (exact fractions, lists made anew, a pattern for
 * the tokens), so that a slip in the one is not a slip in the other. Slow, and only for the tests.
 */
final class Model {
  static final int NONE = -1000000001, UNKNOWN = -1000000002, OUTSIDE = -1000000003, NOT = -1000000004, FULL = -1000000005;

  record Fraction(BigInteger top, BigInteger bottom) implements Comparable<Fraction> {
    static Fraction of(BigInteger top, BigInteger bottom) {
      return bottom.signum() < 0 ? new Fraction(top.negate(), bottom.negate()) : new Fraction(top, bottom);
    }

    public int compareTo(Fraction o) { return top.multiply(o.bottom).compareTo(o.top.multiply(bottom)); }

    BigInteger down() {
      BigInteger[] parts = top.divideAndRemainder(bottom);
      return parts[1].signum() < 0 ? parts[0].subtract(BigInteger.ONE) : parts[0];
    }

    BigInteger up() { return new Fraction(top.negate(), bottom).down().negate(); }
  }

  record Span(BigInteger low, BigInteger high) {
    static final BigInteger UNIT = BigInteger.valueOf(64);

    static Span of(long low, long high) { return new Span(BigInteger.valueOf(low), BigInteger.valueOf(high)); }

    static Span around(List<Fraction> four) { return new Span(Collections.min(four).down(), Collections.max(four).up()); }

    Span plus(Span o) { return new Span(low.add(o.low), high.add(o.high)); }

    Span less(Span o) { return new Span(low.subtract(o.high), high.subtract(o.low)); }

    Span times(int c) {
      BigInteger a = low.multiply(BigInteger.valueOf(c)), b = high.multiply(BigInteger.valueOf(c));
      return new Span(a.min(b), a.max(b));
    }

    Span by(Span o) {
      List<Fraction> four = new ArrayList<>();
      for (BigInteger a : List.of(low, high)) for (BigInteger b : List.of(o.low, o.high)) four.add(Fraction.of(a.multiply(b), UNIT));
      return around(four);
    }

    Span over(Span o) {
      List<Fraction> four = new ArrayList<>();
      for (BigInteger a : List.of(low, high)) for (BigInteger b : List.of(o.low, o.high)) four.add(Fraction.of(a.multiply(UNIT), b));
      return around(four);
    }

    Span power(int k) { return k == 0 ? of(64, 64) : power(k - 1).by(this); }

    boolean hasZero() { return low.signum() <= 0 && high.signum() >= 0; }

    BigInteger width() { return high.subtract(low); }

    BigInteger middle() { return Fraction.of(low.add(high), BigInteger.TWO).down(); }

    Span shared(Span o) {
      BigInteger a = low.max(o.low), b = high.min(o.high);
      return a.compareTo(b) > 0 ? null : new Span(a, b);
    }

    boolean inside(Span o) { return low.compareTo(o.low) > 0 && high.compareTo(o.high) < 0; }

    BigInteger end(int what) { return what == 0 ? low : high; }
  }

  record Box(Span x, Span y) {
    static Box of(int a, int b, int c, int d) { return new Box(Span.of(a, b), Span.of(c, d)); }

    int width() { return x.width().max(y.width()).intValueExact(); }

    int end(int what) { return (what < 2 ? x : y).end(what % 2).intValueExact(); }

    boolean holds(int px, int py) { return end(0) <= px && px <= end(1) && end(2) <= py && py <= end(3); }

    static final Comparator<Box> BY_ENDS = Comparator.<Box>comparingInt(b -> b.end(0)).thenComparingInt(b -> b.end(2))
        .thenComparingInt(b -> b.end(1)).thenComparingInt(b -> b.end(3));
    static final Comparator<Box> FIRST = Comparator.<Box>comparingInt(b -> -b.width()).thenComparing(BY_ENDS);
  }

  record Place(int i, int j) { }

  record Entry(Box box, int verdict) { }

  record Fence(Span d, Span x, Span y) { }

  /** What keep and back are about. */
  static final class State {
    List<Map<Place, Integer>> terms = List.of(new HashMap<>(), new HashMap<>());
    int least = 4;
    List<Box> open = new ArrayList<>(), solved = new ArrayList<>(), doubtful = new ArrayList<>();
    List<Entry> entries = new ArrayList<>();

    State copy() {
      State s = new State();
      s.terms = List.of(new HashMap<>(terms.get(0)), new HashMap<>(terms.get(1)));
      s.least = least;
      s.open = new ArrayList<>(open);
      s.solved = new ArrayList<>(solved);
      s.doubtful = new ArrayList<>(doubtful);
      s.entries = new ArrayList<>(entries);
      return s;
    }
  }

  private State s = new State();
  private final State[] kept = new State[2];
  private Box held = null;
  private String text = "";

  // ---- one box, by the document's words

  static Span value(Map<Place, Integer> p, Box b) {
    Span sum = Span.of(0, 0);
    for (Place at : p.keySet()) sum = sum.plus(b.x.power(at.i).by(b.y.power(at.j)).times(p.get(at)));
    return sum;
  }

  static Span slope(Map<Place, Integer> p, Box b, int by) {
    Span sum = Span.of(0, 0);
    for (Place at : p.keySet()) {
      int c = p.get(at);
      if (by == 0 && at.i > 0) sum = sum.plus(b.x.power(at.i - 1).by(b.y.power(at.j)).times(c * at.i));
      if (by == 1 && at.j > 0) sum = sum.plus(b.x.power(at.i).by(b.y.power(at.j - 1)).times(c * at.j));
    }
    return sum;
  }

  Fence fenceOf(Box b) {
    Span mx = new Span(b.x.middle(), b.x.middle()), my = new Span(b.y.middle(), b.y.middle());
    Span f = value(s.terms.get(0), new Box(mx, my)), g = value(s.terms.get(1), new Box(mx, my));
    Span fx = slope(s.terms.get(0), b, 0), fy = slope(s.terms.get(0), b, 1);
    Span gx = slope(s.terms.get(1), b, 0), gy = slope(s.terms.get(1), b, 1);
    Span d = fx.by(gy).less(fy.by(gx));
    if (d.hasZero()) return new Fence(d, null, null);
    return new Fence(d, mx.less(gy.by(f).less(fy.by(g)).over(d)), my.less(fx.by(g).less(gx.by(f)).over(d)));
  }

  int verdictOf(Box b) {
    if (!value(s.terms.get(0), b).hasZero()) return 0;
    if (!value(s.terms.get(1), b).hasZero()) return 1;
    Fence fence = fenceOf(b);
    if (fence.x == null) return 5;
    Span x = b.x.shared(fence.x), y = b.y.shared(fence.y);
    if (x == null || y == null) return 2;
    if (fence.x.inside(b.x) && fence.y.inside(b.y)) return 3;
    BigInteger all = b.x.width().add(b.y.width()), part = x.width().add(y.width());
    boolean smaller = part.multiply(BigInteger.valueOf(4)).compareTo(all.multiply(BigInteger.valueOf(3))) <= 0;
    return all.signum() > 0 && smaller ? 4 : 5;
  }

  // ---- the text

  private static final Pattern TOKEN = Pattern.compile("[a-z]+|[0-9]+|[^ ]", Pattern.DOTALL);
  private final List<String> words = new ArrayList<>();
  private final List<Integer> starts = new ArrayList<>();
  private final List<int[]> clauses = new ArrayList<>();
  private int at;

  private int parse() {
    words.clear();
    starts.clear();
    clauses.clear();
    Matcher m = TOKEN.matcher(text);
    while (m.find()) {
      words.add(m.group());
      starts.add(m.start());
    }
    words.add("");
    starts.add(text.length());
    at = 0;
    while (clause()) {
      if (words.get(at).isEmpty()) return NONE;
      if (!words.get(at).equals(";") || clauses.size() == 24) break;
      at++;
    }
    return starts.get(at);
  }

  private boolean clause() {
    int kind = Arrays.asList("all", "f", "g", "least", "box").indexOf(words.get(at));
    if (kind < 0) return false;
    at++;
    int[] c = {kind, 0, 0, 0, 0};
    boolean good;
    if (kind == 0) good = true;
    else if (kind == 3) good = number(c, 1, 1, 64, false);
    else if (kind == 4) good = number(c, 1, -512, 512, true) && number(c, 2, c[1] + 1, 512, true)
        && number(c, 3, -512, 512, true) && number(c, 4, c[3] + 1, 512, true);
    else good = number(c, 1, -20, 20, true) && number(c, 2, 0, 4, false) && number(c, 3, 0, 4 - c[2], false);
    if (good) clauses.add(c);
    return good;
  }

  private boolean number(int[] c, int k, int from, int to, boolean signed) {
    boolean minus = signed && words.get(at).equals("-");
    if (minus) at++;
    if (!words.get(at).matches("[0-9]{1,3}")) return false;
    int n = Integer.parseInt(words.get(at)) * (minus ? -1 : 1);
    if (n < from || n > to) return false;
    c[k] = n;
    at++;
    return true;
  }

  // ---- the calls

  private static boolean off(int n, int from, int to) { return n < from || n > to; }

  private static boolean noPlace(int i, int j) { return i < 0 || j < 0 || i > 4 || j > 4 || i + j > 4; }

  private static boolean offPoint(int x, int y) { return off(x, -512, 512) || off(y, -512, 512); }

  private void set(int p, int i, int j, int c) {
    if (c == 0) s.terms.get(p).remove(new Place(i, j));
    else s.terms.get(p).put(new Place(i, j), c);
  }

  private void restart(int a, int b, int c, int d) {
    s.open.clear();
    s.solved.clear();
    s.doubtful.clear();
    s.entries.clear();
    s.open.add(Box.of(a, b, c, d));
  }

  int write(int letter) {
    if (off(letter, 0, 255)) return OUTSIDE;
    if (text.length() >= 200) return FULL;
    text += (char) letter;
    return text.length();
  }

  int erase() {
    int n = text.length();
    text = "";
    return n;
  }

  int fault() { return parse(); }

  int tell() {
    if (parse() != NONE) return NOT;
    for (int[] c : clauses) {
      if (c[0] == 0) {
        s = new State();
        held = null;
      } else if (c[0] == 3) s.least = c[1];
      else if (c[0] == 4) restart(c[1], c[2], c[3], c[4]);
      else set(c[0] - 1, c[2], c[3], c[1]);
    }
    text = "";
    return clauses.size();
  }

  int put(int p, int i, int j, int c) {
    if (off(p, 0, 1)) return UNKNOWN;
    if (noPlace(i, j) || off(c, -20, 20)) return OUTSIDE;
    int had = term(p, i, j);
    set(p, i, j, c);
    return had;
  }

  int term(int p, int i, int j) {
    if (off(p, 0, 1)) return UNKNOWN;
    if (noPlace(i, j)) return OUTSIDE;
    return s.terms.get(p).getOrDefault(new Place(i, j), 0);
  }

  int sign(int p, int x, int y) {
    if (off(p, 0, 1)) return UNKNOWN;
    if (offPoint(x, y)) return OUTSIDE;
    BigInteger sum = BigInteger.ZERO;
    for (Map.Entry<Place, Integer> t : s.terms.get(p).entrySet()) {
      Place at = t.getKey();
      sum = sum.add(BigInteger.valueOf(t.getValue()).multiply(BigInteger.valueOf(x).pow(at.i))
          .multiply(BigInteger.valueOf(y).pow(at.j)).multiply(BigInteger.valueOf(64).pow(4 - at.i - at.j)));
    }
    return sum.signum();
  }

  int hold(int a, int b, int c, int d) {
    if (offPoint(a, b) || offPoint(c, d) || b < a || d < c) return OUTSIDE;
    held = Box.of(a, b, c, d);
    return held.width();
  }

  int value(int p, int what) {
    if (off(p, 0, 1)) return UNKNOWN;
    if (off(what, 0, 1)) return OUTSIDE;
    if (held == null) return NOT;
    return value(s.terms.get(p), held).end(what).intValueExact();
  }

  int slope(int p, int by, int what) {
    if (off(p, 0, 1)) return UNKNOWN;
    if (off(by, 0, 1) || off(what, 0, 1)) return OUTSIDE;
    if (held == null) return NOT;
    return slope(s.terms.get(p), held, by).end(what).intValueExact();
  }

  int fence(int what) {
    if (off(what, 0, 5)) return OUTSIDE;
    if (held == null) return NOT;
    Fence fence = fenceOf(held);
    if (what < 4 && fence.x == null) return NONE;
    BigInteger n = (what > 3 ? fence.d : what < 2 ? fence.x : fence.y).end(what % 2);
    BigInteger most = BigInteger.valueOf(1000000000);
    return n.min(most).max(most.negate()).intValueExact();
  }

  int verdict() { return held == null ? NOT : verdictOf(held); }

  int begin(int a, int b, int c, int d) {
    if (offPoint(a, b) || offPoint(c, d) || b <= a || d <= c) return OUTSIDE;
    restart(a, b, c, d);
    return Math.max(b - a, d - c);
  }

  int least(int n) {
    if (off(n, 1, 64)) return OUTSIDE;
    int had = s.least;
    s.least = n;
    return had;
  }

  int step() {
    if (s.open.isEmpty()) return NOT;
    if (s.entries.size() == 200) return FULL;
    Box b = Collections.min(s.open, Box.FIRST);
    int v = verdictOf(b);
    List<Box> more = new ArrayList<>();
    Fence fence = fenceOf(b);
    if (v == 4) more.add(new Box(b.x.shared(fence.x), b.y.shared(fence.y)));
    if (v == 5 && b.width() > s.least) {
      boolean byX = b.x.width().compareTo(b.y.width()) >= 0;
      Span parted = byX ? b.x : b.y;
      Span lower = new Span(parted.low, parted.middle()), upper = new Span(parted.middle(), parted.high);
      more.add(byX ? new Box(lower, b.y) : new Box(b.x, lower));
      more.add(byX ? new Box(upper, b.y) : new Box(b.x, upper));
    }
    if (s.open.size() - 1 + more.size() > 64) return FULL;
    s.open.remove(b);
    s.entries.add(new Entry(b, v));
    s.open.addAll(more);
    if (v == 3) {
      s.solved.add(new Box(fence.x, fence.y));
      s.solved.sort(Box.BY_ENDS);
    }
    if (v == 5 && more.isEmpty()) s.doubtful.add(b);
    return v;
  }

  int steps(int n) {
    if (off(n, 1, 20)) return OUTSIDE;
    for (int k = 0; k < n; k++) if (step() < 0) return k;
    return n;
  }

  int first(int what) {
    if (off(what, 0, 3)) return OUTSIDE;
    if (s.open.isEmpty()) return NOT;
    return Collections.min(s.open, Box.FIRST).end(what);
  }

  private static int of(List<Box> boxes, int box, int what) {
    if (off(box, 0, boxes.size() - 1)) return UNKNOWN;
    return off(what, 0, 3) ? OUTSIDE : boxes.get(box).end(what);
  }

  int solved(int box, int what) { return of(s.solved, box, what); }

  int doubtful(int box, int what) { return of(s.doubtful, box, what); }

  int entry(int entry, int what) {
    if (off(entry, 0, s.entries.size() - 1)) return UNKNOWN;
    if (off(what, 0, 5)) return OUTSIDE;
    Entry e = s.entries.get(entry);
    return what == 4 ? e.verdict : what == 5 ? verdictOf(e.box) : e.box.end(what);
  }

  int broken() {
    for (int k = 0; k < s.entries.size(); k++) if (entry(k, 4) != entry(k, 5)) return k;
    return NONE;
  }

  int find(int x, int y) {
    if (offPoint(x, y)) return OUTSIDE;
    int sum = 0;
    if (s.open.stream().anyMatch(b -> b.holds(x, y))) sum += 1;
    if (s.solved.stream().anyMatch(b -> b.holds(x, y))) sum += 2;
    if (s.doubtful.stream().anyMatch(b -> b.holds(x, y))) sum += 4;
    if (s.entries.stream().anyMatch(e -> e.verdict < 3 && e.box.holds(x, y))) sum += 8;
    return sum;
  }

  int keep(int k) {
    if (off(k, 0, 1)) return OUTSIDE;
    kept[k] = s.copy();
    return s.entries.size();
  }

  int back(int k) {
    if (off(k, 0, 1)) return OUTSIDE;
    if (kept[k] == null) return NOT;
    s = kept[k].copy();
    return s.entries.size();
  }

  int count(int what) {
    if (off(what, 0, 14)) return OUTSIDE;
    if (what >= 4 && what <= 9) return (int) s.entries.stream().filter(e -> e.verdict == what - 4).count();
    return switch (what) {
      case 0 -> s.open.size();
      case 1 -> s.solved.size();
      case 2 -> s.doubtful.size();
      case 3 -> s.entries.size();
      case 10, 11 -> s.terms.get(what - 10).size();
      case 12 -> s.least;
      case 13 -> text.length();
      default -> s.open.stream().mapToInt(b -> b.end(1) - b.end(0)).sum();
    };
  }
}
