import java.util.ArrayList;
import java.util.List;
import java.util.function.IntPredicate;

/**
 * The document's words, slowly: every figure is found by trying all places, lines and circles.
 * A number is answered by a call; the exception that is due is thrown.
 */
final class Reference {
  private static final int[] NO_PARENTS = {};

  private static final class Made {
    final int way;
    final int[] parents;
    int x;
    int y;
    boolean known;
    /** Its three numbers, null if it is lacking. */
    int[] numbers;

    Made(int way, int[] parents) {
      this.way = way;
      this.parents = parents;
    }

    int sort() {
      return way < 10 ? 0 : way < 20 ? 1 : 2;
    }
  }

  private int p = 43;
  private final List<Made> objects = new ArrayList<>();
  private final List<int[]> claims = new ArrayList<>();
  /** All lines of the plane. */
  private List<int[]> lines = allLines(43);

  int begin(int prime) {
    if (List.of(7, 11, 19, 23, 31, 43).indexOf(prime) < 0) {
      throw new IllegalArgumentException();
    }
    p = prime;
    objects.clear();
    claims.clear();
    lines = allLines(p);
    return p * p;
  }

  int inverse(int a) {
    for (int b = 1; b < p; b++) {
      if (a > 0 && a < p && a * b % p == 1) {
        return b;
      }
    }
    throw new IllegalArgumentException();
  }

  int root(int a) {
    if (!isNumber(a)) {
      throw new IllegalArgumentException();
    }
    for (int r = 0; r < p; r++) {
      if (r * r % p == a) {
        return r;
      }
    }
    return -1;
  }

  int count(int what) {
    switch (what) {
      case 0: return p;
      case 1: return objects.size();
      case 2: return claims.size();
      case 3: return (int) objects.stream().filter(m -> m.way == 0).count();
      case 4: return lacking();
      default: throw new IndexOutOfBoundsException();
    }
  }

  int point(int line, int x, int y) {
    if (line != -1 && !isObject(line)) {
      throw new IndexOutOfBoundsException();
    }
    if (line != -1 && objects.get(line).sort() != 1 || !isNumber(x) || line == -1 && !isNumber(y)) {
      throw new IllegalArgumentException();
    }
    if (objects.size() == 40) {
      throw new IllegalStateException();
    }
    Made made = line == -1 ? new Made(0, NO_PARENTS) : new Made(1, new int[] {line});
    made.x = x;
    made.y = y;
    objects.add(made);
    return objects.size() - 1;
  }

  /** The sorts of the parents, p a point, l a line, c a circle. */
  static String parentsOf(int way) {
    switch (way) {
      case 2: return "ll";
      case 3: case 4: return "lc";
      case 5: case 6: return "cc";
      case 7: case 10: case 13: case 20: return "pp";
      case 8: case 11: case 12: return "pl";
      case 21: case 22: return "ppp";
      default: return "";
    }
  }

  /** The sorts of the objects of a claim, s for any. */
  static String objectsOf(int sort) {
    return new String[] {"pl", "pc", "ppp", "ll", "ll", "pppp", "ss", "lll"}[sort];
  }

  int make(int way, int a, int b, int c) {
    String sorts = parentsOf(way);
    if (sorts.isEmpty()) {
      throw new IllegalArgumentException();
    }
    int[] parents = fitting(sorts, new int[] {a, b, c});
    if (objects.size() == 40) {
      throw new IllegalStateException();
    }
    objects.add(new Made(way, parents));
    return objects.size() - 1;
  }

  private int[] fitting(String sorts, int[] given) {
    int[] used = new int[sorts.length()];
    for (int i = 0; i < used.length; i++) {
      if (!isObject(given[i])) {
        throw new IndexOutOfBoundsException();
      }
      used[i] = given[i];
    }
    for (int i = 0; i < given.length; i++) {
      boolean wrong = i >= used.length
          ? given[i] != 0
          : sorts.charAt(i) != 's' && "plc".indexOf(sorts.charAt(i)) != objects.get(given[i]).sort();
      if (wrong) {
        throw new IllegalStateException();
      }
    }
    return used;
  }

  int move(int object, int x, int y) {
    Made moved = objectAt(object);
    if (!isNumber(x) || moved.way == 0 && !isNumber(y)) {
      throw new IllegalArgumentException();
    }
    if (moved.way > 1) {
      throw new IllegalStateException();
    }
    put(moved, x, y);
    return lacking();
  }

  int object(int object, int what) {
    Made m = objectAt(object);
    switch (what) {
      case 0: return m.sort();
      case 1: return m.way;
      case 2: case 3: case 4: return what - 2 < m.parents.length ? m.parents[what - 2] : -1;
      case 5: return numbers(object) == null ? 1 : 0;
      default: throw new IndexOutOfBoundsException();
    }
  }

  int number(int object, int index) {
    objectAt(object);
    if (index < 0 || index > 2) {
      throw new IndexOutOfBoundsException();
    }
    if (numbers(object) == null) {
      throw new IllegalStateException();
    }
    return numbers(object)[index];
  }

  int places(int object) {
    Made m = objectAt(object);
    int[] n = numbers(object);
    return n == null ? 0 : m.sort() == 0 ? 1 : placesOn(m.sort(), n).size();
  }

  int square(int a, int b) {
    if (objectAt(a).sort() + objectAt(b).sort() != 0 || numbers(a) == null || numbers(b) == null) {
      throw new IllegalStateException();
    }
    return square(numbers(a), numbers(b));
  }

  int claim(int sort, int a, int b, int c, int d) {
    if (sort < 0 || sort > 7) {
      throw new IllegalArgumentException();
    }
    int[] used = fitting(objectsOf(sort), new int[] {a, b, c, d});
    if (sort == 6 && objects.get(a).sort() != objects.get(b).sort() || claims.size() == 20) {
      throw new IllegalStateException();
    }
    int[] made = new int[used.length + 1];
    made[0] = sort;
    System.arraycopy(used, 0, made, 1, used.length);
    claims.add(made);
    return claims.size() - 1;
  }

  int holds(int claim) {
    if (claim < 0 || claim >= claims.size()) {
      throw new IndexOutOfBoundsException();
    }
    int[] made = claims.get(claim);
    int[][] n = new int[made.length - 1][];
    for (int i = 0; i < n.length; i++) {
      n[i] = numbers(made[i + 1]);
      if (n[i] == null) {
        return -1;
      }
    }
    return isTrue(made[0], n) ? 1 : 0;
  }

  private boolean isTrue(int sort, int[][] n) {
    switch (sort) {
      case 0: return isOn(1, n[1], n[0]);
      case 1: return isOn(2, n[1], n[0]);
      case 2: return lines.stream().anyMatch(l -> isOn(1, l, n[0]) && isOn(1, l, n[1]) && isOn(1, l, n[2]));
      case 3: return n[0][0] == n[1][0] && n[0][1] == n[1][1];
      case 4: return (n[0][0] * n[1][0] + n[0][1] * n[1][1]) % p == 0;
      case 5: return square(n[0], n[1]) == square(n[2], n[3]);
      case 6: return java.util.Arrays.equals(n[0], n[1]);
      default: return placesOn(1, n[0]).stream().anyMatch(q -> isOn(1, n[1], q) && isOn(1, n[2], q));
    }
  }

  int everywhere(int claim, int object, int what) {
    holds(claim);
    Made moved = objectAt(object);
    if (what < 0 || what > 2) {
      throw new IndexOutOfBoundsException();
    }
    if (moved.way != 0) {
      throw new IllegalStateException();
    }
    int x = moved.x;
    int y = moved.y;
    int[] answers = {0, 0, -1};
    for (int i = p * p - 1; i >= 0; i--) {
      put(moved, i / p, i % p);
      int verdict = holds(claim);
      answers[0] += verdict == 1 ? 1 : 0;
      answers[1] += verdict == 0 ? 1 : 0;
      answers[2] = verdict == 0 ? i : answers[2];
    }
    put(moved, x, y);
    return answers[what];
  }

  int locus(int point, int on, int what) {
    Made watched = objectAt(point);
    Made moved = objectAt(on);
    if (what < 0 || what > 3) {
      throw new IndexOutOfBoundsException();
    }
    if (watched.sort() != 0 || moved.way != 1) {
      throw new IllegalStateException();
    }
    int home = moved.x;
    java.util.TreeSet<Integer> seen = new java.util.TreeSet<>();
    int missed = 0;
    for (int t = 0; t < p; t++) {
      put(moved, t, 0);
      int[] n = numbers(point);
      if (n == null) {
        missed++;
      } else {
        seen.add(n[0] * p + n[1]);
      }
    }
    put(moved, home, 0);
    int sum = seen.stream().mapToInt(Integer::intValue).sum();
    return what == 0 ? seen.size() : what == 1 ? shape(new ArrayList<>(seen)) : what == 2 ? missed : sum;
  }

  private int shape(List<Integer> seen) {
    if (seen.size() <= 2) {
      return 0;
    }
    if (lines.stream().anyMatch(l -> seen.stream().allMatch(q -> isOn(1, l, place(q))))) {
      return 1;
    }
    for (int m = 0; m < p * p; m++) {
      int[] centre = place(m);
      int s = square(centre, place(seen.get(0)));
      if (s != 0 && seen.stream().allMatch(q -> square(centre, place(q)) == s)) {
        return 2;
      }
    }
    return 3;
  }

  double truth() {
    int[] told = new int[2];
    for (int i = 0; i < claims.size(); i++) {
      if (holds(i) >= 0) {
        told[holds(i)]++;
      }
    }
    return told[0] == 0 ? 1 : told[1] / (double) (told[0] + told[1]);
  }

  long digest() {
    List<Integer> all = new ArrayList<>();
    for (int i = 0; i < 5; i++) {
      all.add(count(i));
    }
    for (int i = 0; i < objects.size(); i++) {
      for (int what = 0; what < 6; what++) {
        all.add(object(i, what));
      }
      for (int k = 0; k < 3 && numbers(i) != null; k++) {
        all.add(number(i, k));
      }
    }
    for (int i = 0; i < claims.size(); i++) {
      all.add(holds(i));
    }
    long d = 421;
    for (int x : all) {
      d = d * 31 + x;
    }
    return d;
  }

  // ---- figures

  private boolean isNumber(int n) {
    return n >= 0 && n < p;
  }

  private boolean isObject(int i) {
    return i >= 0 && i < objects.size();
  }

  private Made objectAt(int i) {
    if (!isObject(i)) {
      throw new IndexOutOfBoundsException();
    }
    return objects.get(i);
  }

  private int lacking() {
    int n = 0;
    for (int i = 0; i < objects.size(); i++) {
      n += numbers(i) == null ? 1 : 0;
    }
    return n;
  }

  private void put(Made moved, int x, int y) {
    moved.x = x;
    moved.y = y;
    for (Made m : objects) {
      m.known = false;
    }
  }

  private int[] numbers(int i) {
    Made m = objects.get(i);
    if (!m.known) {
      int[][] n = new int[m.parents.length][];
      boolean there = true;
      for (int k = 0; k < n.length; k++) {
        n[k] = numbers(m.parents[k]);
        there &= n[k] != null;
      }
      m.numbers = there ? found(m, n) : null;
      m.known = true;
    }
    return m.numbers;
  }

  private int[] found(Made m, int[][] n) {
    switch (m.way) {
      case 0: return new int[] {m.x, m.y, 0};
      case 1: return placeWhere(q -> isOn(1, n[0], place(q)) && place(q)[n[0][1] != 0 ? 0 : 1] == m.x);
      case 2: return isTrue(3, n) ? null : placeWhere(q -> isOn(1, n[0], place(q)) && isOn(1, n[1], place(q)));
      case 3: case 4: return common(m.way == 3, q -> isOn(1, n[0], place(q)) && isOn(2, n[1], place(q)));
      case 5: case 6: return square(n[0], n[1]) == 0 ? null
          : common(m.way == 5, q -> isOn(2, n[0], place(q)) && isOn(2, n[1], place(q)));
      case 7: return placeWhere(q -> isMiddle(place(q), n[0], n[1]));
      case 8: return placeWhere(q -> isMirror(place(q), n[0], n[1]));
      case 10: return square(n[0], n[1]) == 0 ? null : lineThrough(n[0], n[1]);
      case 11: return lineWhere(l -> isOn(1, l, n[0]) && isTrue(3, new int[][] {l, n[1]}));
      case 12: return lineWhere(l -> isOn(1, l, n[0]) && isTrue(4, new int[][] {l, n[1]}));
      case 13: return square(n[0], n[1]) == 0 ? null
          : lineWhere(l -> placesOn(1, l).stream().allMatch(q -> square(q, n[0]) == square(q, n[1])));
      case 20: return circle(n[0], square(n[0], n[1]));
      case 21: return circle(n[0], square(n[1], n[2]));
      default: return isTrue(2, n) ? null : circleThrough(n);
    }
  }

  private int[] place(int q) {
    return new int[] {q / p, q % p, 0};
  }

  private int square(int[] q, int[] r) {
    return ((q[0] - r[0]) * (q[0] - r[0]) + (q[1] - r[1]) * (q[1] - r[1])) % p;
  }

  private boolean isOn(int sort, int[] figure, int[] q) {
    return sort == 1 ? (figure[0] * q[0] + figure[1] * q[1] + figure[2]) % p == 0 : square(figure, q) == figure[2];
  }

  private List<int[]> placesOn(int sort, int[] figure) {
    List<int[]> all = new ArrayList<>();
    for (int q = 0; q < p * p; q++) {
      if (isOn(sort, figure, place(q))) {
        all.add(place(q));
      }
    }
    return all;
  }

  private int[] placeWhere(IntPredicate fits) {
    int[] found = null;
    for (int q = 0; q < p * p; q++) {
      if (fits.test(q)) {
        if (found != null) {
          throw new AssertionError("two places fit");
        }
        found = place(q);
      }
    }
    if (found == null) {
      throw new AssertionError("no place fits");
    }
    return found;
  }

  private int[] common(boolean first, IntPredicate fits) {
    int[] found = null;
    for (int q = 0; q < p * p; q++) {
      int i = first ? p * p - 1 - q : q;
      found = fits.test(i) ? place(i) : found;
    }
    return found;
  }

  private int[] lineWhere(java.util.function.Predicate<int[]> fits) {
    int[] found = null;
    for (int[] l : lines) {
      if (fits.test(l)) {
        if (found != null) {
          throw new AssertionError("two lines fit");
        }
        found = l;
      }
    }
    if (found == null) {
      throw new AssertionError("no line fits");
    }
    return found;
  }

  private int[] lineThrough(int[] q, int[] r) {
    return lineWhere(l -> isOn(1, l, q) && isOn(1, l, r));
  }

  private boolean isMiddle(int[] m, int[] q, int[] r) {
    return (2 * m[0] - q[0] - r[0]) % p == 0 && (2 * m[1] - q[1] - r[1]) % p == 0;
  }

  private boolean isMirror(int[] m, int[] q, int[] line) {
    boolean inTheMiddle = placesOn(1, line).stream().anyMatch(r -> isMiddle(r, m, q));
    return inTheMiddle && (square(m, q) == 0 || isTrue(4, new int[][] {lineThrough(m, q), line}));
  }

  private int[] circle(int[] centre, int s) {
    return s == 0 ? null : new int[] {centre[0], centre[1], s};
  }

  private int[] circleThrough(int[][] n) {
    int[] centre = placeWhere(
        q -> square(place(q), n[0]) == square(place(q), n[1]) && square(place(q), n[0]) == square(place(q), n[2]));
    return circle(centre, square(centre, n[0]));
  }

  private static List<int[]> allLines(int p) {
    List<int[]> all = new ArrayList<>();
    for (int c = 0; c < p; c++) {
      all.add(new int[] {0, 1, c});
      for (int b = 0; b < p; b++) {
        all.add(new int[] {1, b, c});
      }
    }
    return all;
  }
}
