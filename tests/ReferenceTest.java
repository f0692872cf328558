/** Promises 1 to 18: runs of up to 512 calls, each answered by the class and by the reference. */
final class ReferenceTest {
  private interface Call {
    double on(PrimePlane x, Reference r, boolean real);
  }

  private static final int[] WAYS = {2, 3, 4, 5, 6, 7, 8, 10, 11, 12, 13, 20, 21, 22};
  private static final int[] WILD = {-1, -2, 9, 14, 19, 23, 40, 41, 43, 99, Integer.MAX_VALUE, Integer.MIN_VALUE};

  private long seed;
  private final int p;
  private final PrimePlane x = new PrimePlane();
  private final Reference r = new Reference();
  private String last = "";
  private int dear;

  private ReferenceTest(long seed, int p, int dear) {
    this.seed = seed;
    this.p = p;
    this.dear = dear;
  }

  public static void main(String[] args) {
    for (int i = 0; i < 60; i++) {
      new ReferenceTest(1000 + i, 7, 60).run(480);
      new ReferenceTest(2000 + i, 11, 15).run(300);
    }
    for (int i = 0; i < 100; i++) {
      new ReferenceTest(7000 + i, 7, 0).runOfLoci();
      new ReferenceTest(8000 + i, 11, 0).runOfLoci();
    }
    for (int i = 0; i < 6; i++) {
      new ReferenceTest(3000 + i, 19, 2).run(200);
      new ReferenceTest(4000 + i, 23, 2).run(200);
      new ReferenceTest(5000 + i, 31, 1).run(120);
      new ReferenceTest(6000 + i, 43, 1).run(120);
    }
    Due.end();
  }

  /** The next of a fixed row of numbers, 0 to n - 1. */
  private int next(int n) {
    seed = seed * 6364136223846793005L + 1442695040888963407L;
    return (int) ((seed >>> 33) % n);
  }

  private boolean oneIn(int n) {
    return next(n) == 0;
  }

  private void run(int calls) {
    if (p != 43) {
      same("begin", (x, r, real) -> real ? x.begin(p) : r.begin(p));
    }
    for (int i = 0; i < calls; i++) {
      step();
      if (i % 16 == 0) {
        digests();
      }
    }
    digests();
  }

  /** Much is made of one point on a line, and it is looked where all of it goes to. */
  private void runOfLoci() {
    same("begin", (x, r, real) -> real ? x.begin(p) : r.begin(p));
    for (int i = 0; i < 3; i++) {
      int a = next(p);
      int b = next(p);
      same("point(-1, " + a + ", " + b + ")", (x, r, real) -> real ? x.point(-1, a, b) : r.point(-1, a, b));
    }
    same("make(10, 0, 1, 0)", (x, r, real) -> real ? x.make(10, 0, 1, 0) : r.make(10, 0, 1, 0));
    same("point(3, 1, 0)", (x, r, real) -> real ? x.point(3, 1, 0) : r.point(3, 1, 0));
    for (int i = 0; i < 120; i++) {
      addMade();
    }
    for (int i = 0; i < r.count(1); i++) {
      int watched = i;
      for (int what = 0; what < 4 && r.object(i, 0) == 0; what++) {
        int w = what;
        same("locus(" + i + ", 4, " + w + ")", (x, r, real) -> real ? x.locus(watched, 4, w) : r.locus(watched, 4, w));
      }
    }
    digests();
  }

  private void digests() {
    Due.isLong("digest in run of p " + p + " after " + last, r.digest(), x.digest());
  }

  private void same(String name, Call call) {
    last = name;
    double due = 0;
    Class<?> kind = null;
    try {
      due = call.on(x, r, false);
    } catch (RuntimeException e) {
      kind = e.getClass();
    }
    Class<?> expected = kind;
    double answer = due;
    Due.is("p " + p + " " + name + " (due is " + expected + ")", answer, () -> {
      try {
        double got = call.on(x, r, true);
        return expected == null ? got : Double.NaN;
      } catch (RuntimeException e) {
        if (e.getClass() != expected) {
          throw e;
        }
        return answer;
      }
    });
  }

  private void step() {
    int kind = next(100);
    if (kind < 10) {
      addPoint();
    } else if (kind < 30) {
      addMade();
    } else if (kind < 50) {
      movePoint();
    } else if (kind < 60) {
      addClaim();
    } else if (kind < 90) {
      ask();
    } else if (kind < 99) {
      askDearly();
    } else if (oneIn(4)) {
      beginAnew();
    }
  }

  private void beginAnew() {
    int prime = oneIn(2) ? next(45) : p;
    if (prime > p) {
      return;
    }
    same("begin(" + prime + ")", (x, r, real) -> real ? x.begin(prime) : r.begin(prime));
    same("begin(" + p + ")", (x, r, real) -> real ? x.begin(p) : r.begin(p));
  }

  private int wild() {
    return WILD[next(WILD.length)];
  }

  private int some(int n) {
    return oneIn(25) ? wild() : next(n);
  }

  /** Mostly an object of the sort p, l, c or s (any). */
  private int objectOf(char sort) {
    int n = r.count(1);
    if (n == 0 || oneIn(30)) {
      return some(41);
    }
    int tried = next(n);
    for (int i = 0; i < n && !oneIn(40); i++) {
      int found = (tried + i) % n;
      if (sort == 's' || "plc".charAt(r.object(found, 0)) == sort) {
        return found;
      }
    }
    return tried;
  }

  private int objectOrZero(String sorts, int index) {
    return index < sorts.length() ? objectOf(sorts.charAt(index)) : oneIn(20) ? some(41) : 0;
  }

  private void addPoint() {
    int line = oneIn(2) ? -1 : objectOf('l');
    int a = some(p);
    int b = some(p);
    same("point(" + line + ", " + a + ", " + b + ")", (x, r, real) -> real ? x.point(line, a, b) : r.point(line, a, b));
  }

  private void addMade() {
    int way = oneIn(25) ? some(25) : WAYS[next(WAYS.length)];
    String sorts = Reference.parentsOf(way);
    int a = objectOrZero(sorts, 0);
    int b = objectOrZero(sorts, 1);
    int c = objectOrZero(sorts, 2);
    same("make(" + way + ", " + a + ", " + b + ", " + c + ")",
        (x, r, real) -> real ? x.make(way, a, b, c) : r.make(way, a, b, c));
  }

  private void movePoint() {
    int object = objectOf('p');
    for (int i = 0; i < 10 && object >= 0 && object < r.count(1) && r.object(object, 1) > 1; i++) {
      object = objectOf('p');
    }
    int moved = object;
    int a = some(p);
    int b = some(p);
    same("move(" + moved + ", " + a + ", " + b + ")", (x, r, real) -> real ? x.move(moved, a, b) : r.move(moved, a, b));
  }

  private void addClaim() {
    int sort = oneIn(25) ? some(10) : next(8);
    String sorts = sort >= 0 && sort < 8 ? Reference.objectsOf(sort) : "";
    int a = objectOrZero(sorts, 0);
    int b = sort == 6 && r.count(1) > a && a >= 0 ? objectOf("plc".charAt(r.object(a, 0))) : objectOrZero(sorts, 1);
    int c = objectOrZero(sorts, 2);
    int d = objectOrZero(sorts, 3);
    same("claim(" + sort + ", " + a + ", " + b + ", " + c + ", " + d + ")",
        (x, r, real) -> real ? x.claim(sort, a, b, c, d) : r.claim(sort, a, b, c, d));
  }

  private void ask() {
    int a = objectOf(oneIn(2) ? 'p' : 's');
    int b = objectOf('p');
    int n = some(p);
    int what = some(7);
    int claim = some(Math.max(1, r.count(2)));
    switch (next(9)) {
      case 0: same("inverse(" + n + ")", (x, r, real) -> real ? x.inverse(n) : r.inverse(n)); break;
      case 1: same("root(" + n + ")", (x, r, real) -> real ? x.root(n) : r.root(n)); break;
      case 2: same("count(" + what + ")", (x, r, real) -> real ? x.count(what) : r.count(what)); break;
      case 3: same("object(" + a + ", " + what + ")", (x, r, real) -> real ? x.object(a, what) : r.object(a, what));
        break;
      case 4: same("number(" + a + ", " + what / 2 + ")",
          (x, r, real) -> real ? x.number(a, what / 2) : r.number(a, what / 2)); break;
      case 5: same("places(" + a + ")", (x, r, real) -> real ? x.places(a) : r.places(a)); break;
      case 6: same("square(" + a + ", " + b + ")", (x, r, real) -> real ? x.square(a, b) : r.square(a, b)); break;
      case 7: same("holds(" + claim + ")", (x, r, real) -> real ? x.holds(claim) : r.holds(claim)); break;
      default: same("truth()", (x, r, real) -> real ? x.truth() : r.truth());
    }
  }

  private void askDearly() {
    int what = some(4);
    int claim = some(Math.max(1, r.count(2)));
    int a = objectOf('p');
    for (int i = 0; i < 10 && a >= 0 && a < r.count(1) && r.object(a, 1) != 0; i++) {
      a = objectOf('p');
    }
    int free = a;
    int on = objectOf('p');
    for (int i = 0; i < 20 && on >= 0 && on < r.count(1) && r.object(on, 1) != 1; i++) {
      on = objectOf('p');
    }
    int moved = on;
    int watched = objectOf('p');
    if (oneIn(2)) {
      same("locus(" + watched + ", " + moved + ", " + what + ")",
          (x, r, real) -> real ? x.locus(watched, moved, what) : r.locus(watched, moved, what));
    } else if (dear > 0) {
      dear--;
      same("everywhere(" + claim + ", " + free + ", " + what + ")",
          (x, r, real) -> real ? x.everywhere(claim, free, what) : r.everywhere(claim, free, what));
    }
  }
}
