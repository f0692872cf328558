/** Geometry by ruler and compass on the numbers of a field with few elements. */
public final class PrimePlane {
  private static final int MOST_OBJECTS = 40;
  private static final int MOST_CLAIMS = 20;
  private static final int GREATEST_P = 43;

  private static final int POINT = 0;
  private static final int LINE = 1;
  private static final int CIRCLE = 2;
  private static final int ANY = 3;
  private static final int NONE = -1;

  private static final int FREE = 0;
  private static final int ON_A_LINE = 1;
  private static final int LAST_WAY = 22;
  private static final int LAST_SORT_OF_CLAIM = 7;
  private static final int ALIKE = 6;

  /** The sorts of the parents for the ways 0 to 22, three to a way; the ways 9 and 14 to 19 are none. */
  private static final int[] PARENTS = {
    NONE, NONE, NONE,
    LINE, NONE, NONE,
    LINE, LINE, NONE,
    LINE, CIRCLE, NONE,
    LINE, CIRCLE, NONE,
    CIRCLE, CIRCLE, NONE,
    CIRCLE, CIRCLE, NONE,
    POINT, POINT, NONE,
    POINT, LINE, NONE,
    NONE, NONE, NONE,
    POINT, POINT, NONE,
    POINT, LINE, NONE,
    POINT, LINE, NONE,
    POINT, POINT, NONE,
    NONE, NONE, NONE,
    NONE, NONE, NONE,
    NONE, NONE, NONE,
    NONE, NONE, NONE,
    NONE, NONE, NONE,
    NONE, NONE, NONE,
    POINT, POINT, NONE,
    POINT, POINT, POINT,
    POINT, POINT, POINT
  };

  /** The sorts of the objects for the sorts 0 to 7 of claims, four to a claim. */
  private static final int[] SUBJECTS = {
    POINT, LINE, NONE, NONE,
    POINT, CIRCLE, NONE, NONE,
    POINT, POINT, POINT, NONE,
    LINE, LINE, NONE, NONE,
    LINE, LINE, NONE, NONE,
    POINT, POINT, POINT, POINT,
    ANY, ANY, NONE, NONE,
    LINE, LINE, LINE, NONE
  };

  private final Judge judge = new Judge();
  private final Compass compass = judge.compass;
  private final Field field = compass.field;
  private final Row row = new Row();
  private final ClaimRow claimRow = new ClaimRow();
  private final Trail trail = new Trail();

  public PrimePlane() {
    field.choose(GREATEST_P);
  }

  // ---- the plane

  public int begin(int p) throws IllegalArgumentException {
    if (!Field.isOffered(p)) {
      throw new IllegalArgumentException("p is none of the six primes");
    }
    field.choose(p);
    row.size = 0;
    claimRow.size = 0;
    return p * p;
  }

  public int inverse(int a) throws IllegalArgumentException {
    if (a == 0 || !field.has(a)) {
      throw new IllegalArgumentException("a is not 1 to p - 1");
    }
    return field.inverseOf(a);
  }

  public int root(int a) throws IllegalArgumentException {
    if (!field.has(a)) {
      throw new IllegalArgumentException("a is not 0 to p - 1");
    }
    return field.rootOf(a);
  }

  public int count(int what) throws IndexOutOfBoundsException {
    switch (what) {
      case 0: return field.p;
      case 1: return row.size;
      case 2: return claimRow.size;
      case 3: return row.freePoints();
      case 4: return row.lackingOnes();
      default: throw new IndexOutOfBoundsException("what is not 0 to 4");
    }
  }

  // ---- objects

  public int point(int line, int x, int y)
      throws IndexOutOfBoundsException, IllegalArgumentException, IllegalStateException {
    boolean free = line == NONE;
    if (!free && !row.has(line)) {
      throw new IndexOutOfBoundsException("line is no object");
    }
    if (!free && row.at(line).sort() != LINE) {
      throw new IllegalArgumentException("the object is no line");
    }
    if (!field.has(x) || free && !field.has(y)) {
      throw new IllegalArgumentException("x or y is not 0 to p - 1");
    }
    if (row.size >= MOST_OBJECTS) {
      throw new IllegalStateException("there are 40 objects");
    }
    Figure made = row.next();
    made.become(free ? FREE : ON_A_LINE, line, NONE, NONE);
    made.tell(x, y);
    remake(made);
    return made.rank;
  }

  public int make(int way, int a, int b, int c)
      throws IllegalArgumentException, IndexOutOfBoundsException, IllegalStateException {
    if (!isWayToMake(way)) {
      throw new IllegalArgumentException("no such way");
    }
    int first = entry(PARENTS, 3 * way);
    int second = entry(PARENTS, 3 * way + 1);
    int third = entry(PARENTS, 3 * way + 2);
    if (!isThere(a, first) || !isThere(b, second) || !isThere(c, third)) {
      throw new IndexOutOfBoundsException("a parent is no object");
    }
    if (!fits(a, first) || !fits(b, second) || !fits(c, third)) {
      throw new IllegalStateException("a parent of another sort, or a third one that is not needed");
    }
    if (row.size >= MOST_OBJECTS) {
      throw new IllegalStateException("there are 40 objects");
    }
    Figure made = row.next();
    made.become(way, a, b, third == NONE ? NONE : c);
    remake(made);
    return made.rank;
  }

  public int move(int object, int x, int y)
      throws IndexOutOfBoundsException, IllegalArgumentException, IllegalStateException {
    if (!row.has(object)) {
      throw new IndexOutOfBoundsException("no such object");
    }
    Figure moved = row.at(object);
    if (!field.has(x) || moved.way == FREE && !field.has(y)) {
      throw new IllegalArgumentException("x or y is not 0 to p - 1");
    }
    if (moved.way != FREE && moved.way != ON_A_LINE) {
      throw new IllegalStateException("neither a free point nor one on a line");
    }
    row.markFollowers(moved);
    row.wantAll();
    shift(moved, x, y);
    return row.lackingOnes();
  }

  public int object(int object, int what) throws IndexOutOfBoundsException {
    if (!row.has(object) || what < 0 || what > 5) {
      throw new IndexOutOfBoundsException("no such object, or what is not 0 to 5");
    }
    return row.at(object).feature(what);
  }

  public int number(int object, int index) throws IndexOutOfBoundsException, IllegalStateException {
    if (!row.has(object) || index < 0 || index > 2) {
      throw new IndexOutOfBoundsException("no such object, or index is not 0 to 2");
    }
    Figure f = row.at(object);
    if (f.lacking) {
      throw new IllegalStateException("the object is lacking");
    }
    return index == 0 ? f.x : index == 1 ? f.y : f.z;
  }

  public int places(int object) throws IndexOutOfBoundsException {
    if (!row.has(object)) {
      throw new IndexOutOfBoundsException("no such object");
    }
    Figure f = row.at(object);
    if (f.lacking) {
      return 0;
    }
    switch (f.sort()) {
      case POINT: return 1;
      case LINE: return field.p;
      // p is 3 by the remainder of 4, so every circle has p + 1 places.
      default: return field.p + 1;
    }
  }

  public int square(int a, int b) throws IndexOutOfBoundsException, IllegalStateException {
    if (!row.has(a) || !row.has(b)) {
      throw new IndexOutOfBoundsException("no such object");
    }
    Figure first = row.at(a);
    Figure second = row.at(b);
    if (first.sort() != POINT || second.sort() != POINT || first.lacking || second.lacking) {
      throw new IllegalStateException("no point, or lacking");
    }
    return compass.squareOf(first, second);
  }

  // ---- claims

  public int claim(int sort, int a, int b, int c, int d)
      throws IllegalArgumentException, IndexOutOfBoundsException, IllegalStateException {
    if (sort < 0 || sort > LAST_SORT_OF_CLAIM) {
      throw new IllegalArgumentException("sort is not 0 to 7");
    }
    int first = entry(SUBJECTS, 4 * sort);
    int second = entry(SUBJECTS, 4 * sort + 1);
    int third = entry(SUBJECTS, 4 * sort + 2);
    int fourth = entry(SUBJECTS, 4 * sort + 3);
    if (!isThere(a, first) || !isThere(b, second) || !isThere(c, third) || !isThere(d, fourth)) {
      throw new IndexOutOfBoundsException("the claim is about what is no object");
    }
    if (!fits(a, first) || !fits(b, second) || !fits(c, third) || !fits(d, fourth)) {
      throw new IllegalStateException("an object of another sort, or one that is not needed");
    }
    if (sort == ALIKE && row.at(a).sort() != row.at(b).sort()) {
      throw new IllegalStateException("the objects are not of the same sort");
    }
    if (claimRow.size >= MOST_CLAIMS) {
      throw new IllegalStateException("there are 20 claims");
    }
    claimRow.next().become(sort, a, b, third == NONE ? NONE : c, fourth == NONE ? NONE : d);
    return claimRow.size - 1;
  }

  public int holds(int claim) throws IndexOutOfBoundsException {
    if (!claimRow.has(claim)) {
      throw new IndexOutOfBoundsException("no such claim");
    }
    return verdict(claimRow.at(claim));
  }

  public int everywhere(int claim, int object, int what)
      throws IndexOutOfBoundsException, IllegalStateException {
    if (!claimRow.has(claim) || !row.has(object) || what < 0 || what > 2) {
      throw new IndexOutOfBoundsException("no such claim or object, or what is not 0 to 2");
    }
    Figure moved = row.at(object);
    if (moved.way != FREE) {
      throw new IllegalStateException("the object is no free point");
    }
    Claim looked = claimRow.at(claim);
    row.markFollowers(moved);
    row.wantFor(looked);
    int homeX = moved.toldX;
    int homeY = moved.toldY;
    int held = 0;
    int failed = 0;
    int leastFailed = NONE;
    int p = field.p;
    for (int x = 0; x < p; x++) {
      for (int y = 0; y < p; y++) {
        shift(moved, x, y);
        int verdict = verdict(looked);
        if (verdict == 1) {
          held++;
        } else if (verdict == 0) {
          failed++;
          leastFailed = leastFailed == NONE ? p * x + y : leastFailed;
        }
      }
    }
    shift(moved, homeX, homeY);
    return what == 0 ? held : what == 1 ? failed : leastFailed;
  }

  // ---- loci

  public int locus(int point, int on, int what)
      throws IndexOutOfBoundsException, IllegalStateException {
    if (!row.has(point) || !row.has(on) || what < 0 || what > 3) {
      throw new IndexOutOfBoundsException("no such object, or what is not 0 to 3");
    }
    Figure watched = row.at(point);
    Figure moved = row.at(on);
    if (watched.sort() != POINT || moved.way != ON_A_LINE) {
      throw new IllegalStateException("no point, or not one on a line");
    }
    row.markFollowers(moved);
    row.wantFor(watched);
    trail.clear();
    int home = moved.toldX;
    for (int t = 0; t < field.p; t++) {
      shift(moved, t, 0);
      trail.look(watched);
    }
    shift(moved, home, 0);
    switch (what) {
      case 0: return trail.seen.size;
      case 1: return judge.shapeOf(trail.seen);
      case 2: return trail.missed;
      default: return trail.sum(field.p);
    }
  }

  public double truth() {
    int held = 0;
    int judged = 0;
    for (int i = 0; i < claimRow.size; i++) {
      int verdict = verdict(claimRow.at(i));
      held += verdict == 1 ? 1 : 0;
      judged += verdict >= 0 ? 1 : 0;
    }
    return judged == 0 ? 1.0 : (double) held / judged;
  }

  public long digest() {
    long d = 421;
    d = d * 31 + field.p;
    d = d * 31 + row.size;
    d = d * 31 + claimRow.size;
    d = d * 31 + row.freePoints();
    d = d * 31 + row.lackingOnes();
    for (int i = 0; i < row.size; i++) {
      d = row.at(i).addTo(d);
    }
    for (int i = 0; i < claimRow.size; i++) {
      d = d * 31 + verdict(claimRow.at(i));
    }
    return d;
  }

  // ---- what the calls share

  /** A way that has parents, but for the point on a line, which point makes. */
  private static boolean isWayToMake(int way) {
    return way > ON_A_LINE && way <= LAST_WAY && entry(PARENTS, 3 * way) != NONE;
  }

  private static int entry(int[] table, int index) {
    return index >= 0 && index < table.length ? table[index] : NONE;
  }

  private boolean isThere(int object, int needed) {
    return needed == NONE || row.has(object);
  }

  private boolean fits(int object, int needed) {
    if (needed == NONE) {
      return object == 0;
    }
    return needed == ANY || row.at(object).sort() == needed;
  }

  private void remake(Figure f) {
    Figure first = row.at(f.a);
    Figure second = row.at(f.b);
    Figure third = row.at(f.c);
    boolean parentLacks = first.lacking || second.lacking || third.lacking;
    f.lacking = parentLacks || !compass.draw(f, first, second, third);
  }

  /** Tells a point its place anew and makes again what the row has marked for it. */
  private void shift(Figure moved, int x, int y) {
    moved.tell(x, y);
    for (int i = moved.rank; i < row.size; i++) {
      Figure f = row.at(i);
      if (f.follows && f.wanted) {
        remake(f);
      }
    }
  }

  /** 1 if the claim holds now, 0 if it fails, -1 if it is void. */
  private int verdict(Claim c) {
    Figure first = row.at(c.a);
    Figure second = row.at(c.b);
    Figure third = row.at(c.c);
    Figure fourth = row.at(c.d);
    if (first.lacking || second.lacking || third.lacking || fourth.lacking) {
      return -1;
    }
    return judge.isTrue(c.sort, first, second, third, fourth) ? 1 : 0;
  }

  /** The numbers 0 to p - 1. */
  private static final class Field {
    int p = GREATEST_P;
    private final int[] inverses = new int[GREATEST_P];
    private final int[] roots = new int[GREATEST_P];

    static boolean isOffered(int p) {
      return p == 7 || p == 11 || p == 19 || p == 23 || p == 31 || p == 43;
    }

    void choose(int prime) {
      p = prime;
      for (int i = 0; i < roots.length; i++) {
        roots[i] = NONE;
      }
      // Downwards, so that of two roots the smaller one stays.
      for (int r = prime - 1; r >= 0; r--) {
        keep(roots, rest(r * r), r);
      }
      for (int a = 1; a < prime; a++) {
        for (int b = 1; b < prime; b++) {
          if (rest(a * b) == 1) {
            keep(inverses, a, b);
          }
        }
      }
    }

    private static void keep(int[] table, int index, int value) {
      if (index >= 0 && index < table.length) {
        table[index] = value;
      }
    }

    boolean has(int n) {
      return n >= 0 && n < p;
    }

    /** The number by the remainder of p. */
    int rest(int n) {
      return p == 0 ? 0 : Math.floorMod(n, p);
    }

    /** 1 / n for one of the numbers 1 to p - 1, and 0 for 0. */
    int inverseOf(int n) {
      return n >= 0 && n < inverses.length ? inverses[n] : 0;
    }

    /** The smaller root of n, -1 if it is no square. */
    int rootOf(int n) {
      int r = rest(n);
      return r >= 0 && r < roots.length ? roots[r] : NONE;
    }

    /** n / d for a d that is not 0. */
    int ratio(int n, int d) {
      return rest(rest(n) * inverseOf(rest(d)));
    }
  }

  /** An object: how it was made and where it is now. */
  private static final class Figure {
    final int rank;
    int way;
    int a = NONE;
    int b = NONE;
    int c = NONE;
    /** The told place of a free point; the told t of a point on a line. */
    int toldX;
    int toldY;
    boolean lacking;
    /** A point's x, y and 0, a line's a, b and c, or a circle's u, v and s. */
    int x;
    int y;
    int z;
    boolean follows;
    boolean wanted;

    Figure(int rank) {
      this.rank = rank;
    }

    void become(int newWay, int first, int second, int third) {
      way = newWay;
      a = first;
      b = second;
      c = third;
    }

    void tell(int newX, int newY) {
      toldX = newX;
      toldY = newY;
    }

    void put(int newX, int newY, int newZ) {
      x = newX;
      y = newY;
      z = newZ;
    }

    int sort() {
      return way < 10 ? POINT : way < 20 ? LINE : CIRCLE;
    }

    boolean isLike(Figure other) {
      return x == other.x && y == other.y && z == other.z;
    }

    /** What is told of it: sort, way, three parents, whether it is lacking. */
    int feature(int what) {
      switch (what) {
        case 0: return sort();
        case 1: return way;
        case 2: return a;
        case 3: return b;
        case 4: return c;
        default: return lacking ? 1 : 0;
      }
    }

    long addTo(long digest) {
      long d = digest;
      for (int what = 0; what <= 5; what++) {
        d = d * 31 + feature(what);
      }
      if (lacking) {
        return d;
      }
      d = d * 31 + x;
      d = d * 31 + y;
      return d * 31 + z;
    }
  }

  /** Figures, made once and used again; those from size on are not in use. */
  private static final class Row {
    private final Figure[] figures = new Figure[GREATEST_P];
    /** Stands for a figure that is not there; it is never lacking and never changes its place. */
    private final Figure nobody = new Figure(NONE);
    int size;

    Row() {
      for (int i = 0; i < figures.length; i++) {
        figures[i] = new Figure(i);
      }
    }

    boolean has(int i) {
      return i >= 0 && i < size;
    }

    Figure at(int i) {
      if (i < 0 || i >= size || i >= figures.length) {
        return nobody;
      }
      Figure f = figures[i];
      return f == null ? nobody : f;
    }

    Figure next() {
      if (size >= figures.length) {
        return nobody;
      }
      size++;
      return at(size - 1);
    }

    int freePoints() {
      int n = 0;
      for (int i = 0; i < size; i++) {
        n += at(i).way == FREE ? 1 : 0;
      }
      return n;
    }

    int lackingOnes() {
      int n = 0;
      for (int i = 0; i < size; i++) {
        n += at(i).lacking ? 1 : 0;
      }
      return n;
    }

    void markFollowers(Figure moved) {
      for (int i = 0; i < size; i++) {
        Figure f = at(i);
        f.follows = i == moved.rank || at(f.a).follows || at(f.b).follows || at(f.c).follows;
      }
    }

    void wantAll() {
      setWanted(true);
    }

    void wantFor(Figure f) {
      setWanted(false);
      f.wanted = true;
      wantParents();
    }

    void wantFor(Claim c) {
      setWanted(false);
      at(c.a).wanted = true;
      at(c.b).wanted = true;
      at(c.c).wanted = true;
      at(c.d).wanted = true;
      wantParents();
    }

    private void setWanted(boolean wanted) {
      for (int i = 0; i < size; i++) {
        at(i).wanted = wanted;
      }
    }

    private void wantParents() {
      // Parents have smaller numbers, so one pass downwards reaches all of them.
      for (int i = size - 1; i >= 0; i--) {
        Figure f = at(i);
        if (f.wanted) {
          at(f.a).wanted = true;
          at(f.b).wanted = true;
          at(f.c).wanted = true;
        }
      }
    }
  }

  /** Makes figures of their parents. */
  private static final class Compass {
    final Field field = new Field();
    private final Figure chord = new Figure(NONE);

    /** Puts a figure where its parents want it; false if it cannot be made. */
    boolean draw(Figure f, Figure a, Figure b, Figure c) {
      switch (f.way) {
        case FREE: return putPoint(f, f.toldX, f.toldY);
        case ON_A_LINE: return pointOnLine(f, a, f.toldX);
        case 2: return intersection(f, a, b);
        case 3:
        case 4: return lineAndCircle(f, a, b);
        case 5:
        case 6: return equalPowers(chord, a, b) && lineAndCircle(f, chord, a);
        case 7: return middle(f, a, b);
        case 8: return mirror(f, a, b);
        case 10: return lineThrough(f, a, b);
        case 11: return lineAlong(f, a, b.x, b.y);
        case 12: return lineAlong(f, a, -b.y, b.x);
        case 13: return lineBetween(f, a, b);
        case 20: return putCircle(f, a.x, a.y, squareOf(a, b));
        case 21: return putCircle(f, a.x, a.y, squareOf(b, c));
        case 22: return circleThrough(f, a, b, c);
        default: return false;
      }
    }

    private boolean putPoint(Figure f, int x, int y) {
      f.put(field.rest(x), field.rest(y), 0);
      return true;
    }

    /** Puts the line with these numbers, so divided that the first one that is not 0 is 1. */
    private boolean putLine(Figure f, int a, int b, int c) {
      int lead = field.rest(field.rest(a) != 0 ? a : b);
      if (lead == 0) {
        return false;
      }
      int k = field.inverseOf(lead);
      f.put(field.rest(a * k), field.rest(b * k), field.rest(c * k));
      return true;
    }

    private boolean putCircle(Figure f, int u, int v, int s) {
      f.put(field.rest(u), field.rest(v), field.rest(s));
      return f.z != 0;
    }

    private boolean pointOnLine(Figure f, Figure line, int t) {
      if (line.y == 0) {
        return putPoint(f, -line.z, t);
      }
      return putPoint(f, t, field.ratio(-(line.x * t + line.z), line.y));
    }

    boolean intersection(Figure f, Figure l, Figure m) {
      int d = field.rest(l.x * m.y - m.x * l.y);
      if (d == 0) {
        return false;
      }
      return putPoint(f, field.ratio(l.y * m.z - m.y * l.z, d), field.ratio(m.x * l.z - l.x * m.z, d));
    }

    private boolean lineAndCircle(Figure f, Figure line, Figure circle) {
      int a = line.x;
      int b = line.y;
      int n = field.rest(a * a + b * b);
      int e = power(circle, line);
      int r = field.rootOf(circle.z * n - e * e);
      if (n == 0 || r < 0) {
        return false;
      }
      int x1 = field.rest(circle.x + field.ratio(-a * e - b * r, n));
      int y1 = field.rest(circle.y + field.ratio(-b * e + a * r, n));
      int x2 = field.rest(circle.x + field.ratio(-a * e + b * r, n));
      int y2 = field.rest(circle.y + field.ratio(-b * e - a * r, n));
      boolean inOrder = x1 < x2 || x1 == x2 && y1 <= y2;
      boolean firstIsDue = f.way == 3 || f.way == 5;
      return inOrder == firstIsDue ? putPoint(f, x1, y1) : putPoint(f, x2, y2);
    }

    /** The line on which all is that two circles have in common; none if they have one centre. */
    private boolean equalPowers(Figure f, Figure k, Figure m) {
      int c = k.x * k.x + k.y * k.y - k.z - m.x * m.x - m.y * m.y + m.z;
      return putLine(f, 2 * (m.x - k.x), 2 * (m.y - k.y), c);
    }

    private boolean middle(Figure f, Figure p, Figure q) {
      return putPoint(f, field.ratio(p.x + q.x, 2), field.ratio(p.y + q.y, 2));
    }

    private boolean mirror(Figure f, Figure p, Figure line) {
      int k = field.ratio(2 * power(p, line), line.x * line.x + line.y * line.y);
      return putPoint(f, p.x - k * line.x, p.y - k * line.y);
    }

    private boolean lineThrough(Figure f, Figure p, Figure q) {
      return putLine(f, p.y - q.y, q.x - p.x, p.x * q.y - q.x * p.y);
    }

    /** The line through a point with these a and b. */
    private boolean lineAlong(Figure f, Figure p, int a, int b) {
      return putLine(f, a, b, -(a * p.x + b * p.y));
    }

    private boolean lineBetween(Figure f, Figure p, Figure q) {
      int c = p.x * p.x + p.y * p.y - q.x * q.x - q.y * q.y;
      return putLine(f, 2 * (q.x - p.x), 2 * (q.y - p.y), c);
    }

    boolean circleThrough(Figure f, Figure p, Figure q, Figure r) {
      int qx = q.x - p.x;
      int qy = q.y - p.y;
      int rx = r.x - p.x;
      int ry = r.y - p.y;
      int d = field.rest(2 * (qx * ry - rx * qy));
      if (d == 0) {
        return false;
      }
      int qs = qx * qx + qy * qy;
      int rs = rx * rx + ry * ry;
      int u = field.ratio(ry * qs - qy * rs, d);
      int v = field.ratio(qx * rs - rx * qs, d);
      return putCircle(f, p.x + u, p.y + v, u * u + v * v);
    }

    int squareOf(Figure p, Figure q) {
      int dx = p.x - q.x;
      int dy = p.y - q.y;
      return field.rest(dx * dx + dy * dy);
    }

    /** What the line's sum answers at a point; 0 if the point is on it. */
    int power(Figure p, Figure line) {
      return field.rest(line.x * p.x + line.y * p.y + line.z);
    }
  }

  /** A claim: its sort and the numbers of its objects. */
  private static final class Claim {
    int sort;
    int a = NONE;
    int b = NONE;
    int c = NONE;
    int d = NONE;

    void become(int newSort, int first, int second, int third, int fourth) {
      sort = newSort;
      a = first;
      b = second;
      c = third;
      d = fourth;
    }
  }

  /** Claims, made once and used again; those from size on are not in use. */
  private static final class ClaimRow {
    private final Claim[] claims = new Claim[MOST_CLAIMS];
    /** Stands for a claim that is not there. */
    private final Claim nothing = new Claim();
    int size;

    ClaimRow() {
      for (int i = 0; i < claims.length; i++) {
        claims[i] = new Claim();
      }
    }

    boolean has(int i) {
      return i >= 0 && i < size;
    }

    Claim at(int i) {
      if (i < 0 || i >= size || i >= claims.length) {
        return nothing;
      }
      Claim c = claims[i];
      return c == null ? nothing : c;
    }

    Claim next() {
      if (size >= claims.length) {
        return nothing;
      }
      size++;
      return at(size - 1);
    }
  }

  /** Tells what figures have to do with one another. */
  private static final class Judge {
    final Compass compass = new Compass();
    private final Field field = compass.field;
    private final Figure cross = new Figure(NONE);
    private final Figure ring = new Figure(NONE);

    boolean isTrue(int sort, Figure a, Figure b, Figure c, Figure d) {
      switch (sort) {
        case 0: return compass.power(a, b) == 0;
        case 1: return isOnCircle(a, b);
        case 2: return areInLine(a, b, c);
        case 3: return areParallel(a, b);
        case 4: return field.rest(a.x * b.x + a.y * b.y) == 0;
        case 5: return compass.squareOf(a, b) == compass.squareOf(c, d);
        case 6: return a.isLike(b);
        case 7: return shareAPlace(a, b, c);
        default: return false;
      }
    }

    private boolean isOnCircle(Figure p, Figure circle) {
      return compass.squareOf(p, circle) == circle.z;
    }

    private boolean areInLine(Figure p, Figure q, Figure r) {
      return field.rest((q.x - p.x) * (r.y - p.y) - (r.x - p.x) * (q.y - p.y)) == 0;
    }

    private static boolean areParallel(Figure l, Figure m) {
      return l.x == m.x && l.y == m.y;
    }

    private boolean shareAPlace(Figure l, Figure m, Figure n) {
      if (areParallel(l, m)) {
        return l.isLike(m) && (!areParallel(l, n) || l.isLike(n));
      }
      return compass.intersection(cross, l, m) && compass.power(cross, n) == 0;
    }

    /** 0 for at most two different places, 1 if all are on a line, 2 on a circle, 3 otherwise. */
    int shapeOf(Row seen) {
      if (seen.size <= 2) {
        return 0;
      }
      if (allAreInLine(seen)) {
        return 1;
      }
      return allAreOnCircle(seen) ? 2 : 3;
    }

    private boolean allAreInLine(Row seen) {
      for (int i = 2; i < seen.size; i++) {
        if (!areInLine(seen.at(0), seen.at(1), seen.at(i))) {
          return false;
        }
      }
      return true;
    }

    private boolean allAreOnCircle(Row seen) {
      // No circle has three places of a line: without a circle through the first three there is none.
      if (!compass.circleThrough(ring, seen.at(0), seen.at(1), seen.at(2))) {
        return false;
      }
      for (int i = 3; i < seen.size; i++) {
        if (!isOnCircle(seen.at(i), ring)) {
          return false;
        }
      }
      return true;
    }
  }

  /** Where a point was seen, and how often it was lacking. */
  private static final class Trail {
    final Row seen = new Row();
    int missed;

    void clear() {
      seen.size = 0;
      missed = 0;
    }

    void look(Figure f) {
      if (f.lacking) {
        missed++;
      } else if (!knows(f)) {
        seen.next().put(f.x, f.y, 0);
      }
    }

    private boolean knows(Figure f) {
      for (int i = 0; i < seen.size; i++) {
        if (seen.at(i).isLike(f)) {
          return true;
        }
      }
      return false;
    }

    int sum(int p) {
      int total = 0;
      for (int i = 0; i < seen.size; i++) {
        Figure f = seen.at(i);
        total += p * f.x + f.y;
      }
      return total;
    }
  }
}
