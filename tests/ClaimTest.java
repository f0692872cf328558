/** Promises 13 to 15: claim, holds, everywhere. */
final class ClaimTest {
  public static void main(String[] args) {
    onLineAndCircle();
    pointsInLine();
    linesOfClaims();
    squaresAndSame();
    oneCommonPlace();
    voidClaims();
    claimOrder();
    twentyClaims();
    holdsOrder();
    everywhere();
    everywhereWithVoids();
    everywhereOrder();
    Due.end();
  }

  private static void holds(PrimePlane x, int due, int sort, int a, int b, int c, int d) {
    String name = "claim(" + sort + ", " + a + ", " + b + ", " + c + ", " + d + ")";
    int number = x.count(2);
    Due.is(name, number, () -> x.claim(sort, a, b, c, d));
    Due.is(name + " holds", due, () -> x.holds(number));
  }

  /** p = 7: 0 (0, 0), 1 (1, 0), 2 (0, 1), 3 (2, 0), 4 the line y = 0, 5 the circle of the square 1. */
  private static PrimePlane plane() {
    PrimePlane x = new PrimePlane();
    x.begin(7);
    x.point(-1, 0, 0);
    x.point(-1, 1, 0);
    x.point(-1, 0, 1);
    x.point(-1, 2, 0);
    x.make(10, 0, 1, 0);
    x.make(20, 0, 1, 0);
    return x;
  }

  private static void onLineAndCircle() {
    PrimePlane x = plane();
    holds(x, 1, 0, 3, 4, 0, 0);
    holds(x, 0, 0, 2, 4, 0, 0);
    holds(x, 1, 1, 2, 5, 0, 0);
    holds(x, 0, 1, 3, 5, 0, 0);
    holds(x, 0, 1, 0, 5, 0, 0);
    x.move(3, 5, 5);
    Due.is("(5, 5) is not on y = 0", 0, () -> x.holds(0));
    Due.is("(5, 5) is on the circle", 1, () -> x.holds(3));
  }

  private static void pointsInLine() {
    PrimePlane x = plane();
    holds(x, 1, 2, 0, 1, 3, 0);
    holds(x, 0, 2, 0, 1, 2, 0);
    holds(x, 1, 2, 2, 2, 2, 0);
    holds(x, 1, 2, 2, 0, 2, 0);
    x.move(3, 3, 5);
    holds(x, 1, 2, 3, 2, 1, 0);
  }

  private static void linesOfClaims() {
    PrimePlane x = plane();
    x.make(11, 2, 4, 0);
    x.make(12, 2, 4, 0);
    x.make(10, 1, 2, 0);
    x.make(10, 1, 3, 0);
    x.make(12, 3, 8, 0);
    holds(x, 1, 3, 4, 6, 0, 0);
    holds(x, 1, 3, 4, 4, 0, 0);
    holds(x, 1, 3, 4, 9, 0, 0);
    holds(x, 0, 3, 4, 7, 0, 0);
    holds(x, 0, 3, 8, 4, 0, 0);
    holds(x, 0, 3, 8, 10, 0, 0);
    holds(x, 1, 4, 4, 7, 0, 0);
    holds(x, 0, 4, 4, 6, 0, 0);
    holds(x, 0, 4, 4, 4, 0, 0);
    holds(x, 1, 4, 8, 10, 0, 0);
    holds(x, 0, 4, 8, 8, 0, 0);
    holds(x, 0, 4, 8, 7, 0, 0);
  }

  private static void squaresAndSame() {
    PrimePlane x = plane();
    x.make(10, 1, 3, 0);
    x.make(11, 2, 4, 0);
    x.make(20, 0, 2, 0);
    x.make(20, 0, 3, 0);
    x.make(20, 1, 0, 0);
    x.make(7, 0, 3, 0);
    holds(x, 1, 5, 0, 1, 0, 2);
    holds(x, 1, 5, 0, 1, 1, 3);
    holds(x, 0, 5, 0, 1, 0, 3);
    holds(x, 0, 5, 0, 1, 2, 2);
    holds(x, 1, 5, 1, 1, 2, 2);
    holds(x, 1, 6, 1, 11, 0, 0);
    holds(x, 0, 6, 1, 3, 0, 0);
    holds(x, 0, 6, 0, 2, 0, 0);
    holds(x, 1, 6, 4, 6, 0, 0);
    holds(x, 0, 6, 4, 7, 0, 0);
    holds(x, 1, 6, 5, 8, 0, 0);
    holds(x, 0, 6, 5, 9, 0, 0);
    holds(x, 0, 6, 5, 10, 0, 0);
  }

  private static void oneCommonPlace() {
    PrimePlane x = plane();
    x.make(11, 2, 4, 0);
    x.point(-1, 5, 6);
    x.make(11, 7, 4, 0);
    x.make(10, 1, 2, 0);
    x.make(12, 1, 4, 0);
    x.make(12, 3, 4, 0);
    x.make(10, 1, 3, 0);
    holds(x, 1, 7, 4, 9, 10, 0);
    holds(x, 0, 7, 4, 9, 11, 0);
    holds(x, 0, 7, 4, 6, 8, 0);
    holds(x, 0, 7, 4, 6, 9, 0);
    holds(x, 0, 7, 9, 4, 6, 0);
    holds(x, 0, 7, 4, 9, 6, 0);
    holds(x, 1, 7, 4, 4, 4, 0);
    holds(x, 1, 7, 4, 12, 9, 0);
    holds(x, 1, 7, 9, 4, 12, 0);
    holds(x, 1, 7, 4, 9, 12, 0);
    holds(x, 0, 7, 4, 12, 6, 0);
    holds(x, 0, 7, 6, 4, 12, 0);
    holds(x, 0, 7, 4, 6, 12, 0);
  }

  private static void voidClaims() {
    PrimePlane x = plane();
    x.make(10, 0, 0, 0);
    x.make(2, 6, 4, 0);
    x.make(20, 0, 0, 0);
    holds(x, -1, 0, 0, 6, 0, 0);
    holds(x, -1, 0, 7, 4, 0, 0);
    holds(x, -1, 1, 0, 8, 0, 0);
    holds(x, -1, 2, 7, 0, 1, 0);
    holds(x, -1, 2, 0, 7, 1, 0);
    holds(x, -1, 2, 0, 1, 7, 0);
    holds(x, -1, 3, 4, 6, 0, 0);
    holds(x, -1, 4, 6, 4, 0, 0);
    holds(x, -1, 5, 7, 1, 2, 3);
    holds(x, -1, 5, 0, 7, 2, 3);
    holds(x, -1, 5, 0, 1, 7, 3);
    holds(x, -1, 5, 0, 1, 2, 7);
    holds(x, -1, 6, 7, 7, 0, 0);
    holds(x, -1, 6, 6, 6, 0, 0);
    holds(x, -1, 6, 8, 5, 0, 0);
    holds(x, -1, 7, 4, 4, 6, 0);
    holds(x, -1, 7, 4, 6, 4, 0);
    holds(x, -1, 7, 6, 4, 4, 0);
  }

  private static void claimOrder() {
    PrimePlane y = plane();
    int[] noSorts = {-1, 8, 9, 1073741824, -1073741824, Integer.MIN_VALUE, Integer.MAX_VALUE};
    for (int sort : noSorts) {
      Due.noArgument("claim(" + sort + ")", y, () -> y.claim(sort, 99, 99, 99, 99));
    }
    // Objects that fit, and how many of them are needed.
    int[][] fit = {{0, 4, 0, 0, 2}, {0, 5, 0, 0, 2}, {0, 1, 2, 0, 3}, {4, 4, 0, 0, 2}, {4, 4, 0, 0, 2},
        {0, 1, 2, 3, 4}, {0, 1, 0, 0, 2}, {4, 4, 4, 0, 3}};
    for (int s = 0; s < fit.length; s++) {
      PrimePlane x = plane();
      int sort = s;
      int[] f = fit[s];
      for (int i = 0; i < 4; i++) {
        for (int bad : new int[] {-1, 6, Integer.MIN_VALUE, Integer.MAX_VALUE}) {
          int[] g = f.clone();
          g[i] = bad;
          String name = "claim(" + sort + ") with " + bad + " for object " + i;
          if (i < f[4]) {
            Due.noIndex(name, x, () -> x.claim(sort, g[0], g[1], g[2], g[3]));
            g[i == 0 ? 1 : 0] = sort == 6 ? 4 : sort < 3 || sort == 5 ? 5 : 0;
            Due.noIndex(name + " and another sort", x, () -> x.claim(sort, g[0], g[1], g[2], g[3]));
          } else {
            Due.noState(name, x, () -> x.claim(sort, g[0], g[1], g[2], g[3]));
          }
        }
        for (int other : new int[] {1, 4, 5}) {
          int[] g = f.clone();
          g[i] = other;
          if (i >= f[4] || x.object(other, 0) != x.object(f[i], 0)) {
            Due.noState("claim(" + sort + ") with " + other + " for object " + i, x,
                () -> x.claim(sort, g[0], g[1], g[2], g[3]));
          }
        }
      }
      Due.is("no claims yet", 0, () -> x.count(2));
    }
  }

  private static void twentyClaims() {
    PrimePlane x = plane();
    for (int i = 0; i < 20; i++) {
      holds(x, i % 2, 0, i % 2 == 0 ? 2 : 3, 4, 0, 0);
    }
    Due.noState("one more claim", x, () -> x.claim(0, 0, 4, 0, 0));
    Due.noArgument("claim(8, ..)", x, () -> x.claim(8, 0, 4, 0, 0));
    Due.noIndex("claim(0, 6, ..)", x, () -> x.claim(0, 6, 4, 0, 0));
    Due.is("20 claims", 20, () -> x.count(2));
    Due.is("the last one", 1, () -> x.holds(19));
    Due.noIndex("holds(20)", x, () -> x.holds(20));
  }

  private static void holdsOrder() {
    PrimePlane x = plane();
    x.claim(0, 0, 4, 0, 0);
    for (int bad : new int[] {-1, 1, 20, Integer.MIN_VALUE, Integer.MAX_VALUE}) {
      Due.noIndex("holds(" + bad + ")", x, () -> x.holds(bad));
    }
  }

  private static void everywhere(PrimePlane x, int claim, int object, int held, int failed, int least) {
    String name = "everywhere(" + claim + ", " + object + ", ";
    long before = x.digest();
    Due.is(name + "0)", held, () -> x.everywhere(claim, object, 0));
    Due.is(name + "1)", failed, () -> x.everywhere(claim, object, 1));
    Due.is(name + "2)", least, () -> x.everywhere(claim, object, 2));
    Due.isLong("digest after it", before, x.digest());
  }

  private static void everywhere() {
    PrimePlane x = plane();
    x.claim(0, 3, 4, 0, 0);
    x.claim(1, 3, 5, 0, 0);
    x.claim(6, 2, 2, 0, 0);
    x.claim(6, 0, 1, 0, 0);
    everywhere(x, 0, 3, 7, 42, 1);
    everywhere(x, 1, 3, 8, 41, 0);
    everywhere(x, 2, 3, 49, 0, -1);
    everywhere(x, 3, 3, 0, 49, 0);
    everywhere(x, 2, 2, 49, 0, -1);
    x.make(10, 2, 3, 0);
    x.make(2, 6, 4, 0);
    x.point(4, 5, 0);
    x.claim(6, 7, 8, 0, 0);
    // The line through (0, 1) and (x, y) meets y = 0 at 5 for the six places that are on a line with both.
    everywhere(x, 4, 3, 6, 36, 0);
    Due.is("the point is back", 2, () -> x.number(3, 0));
    Due.is("and its y", 0, () -> x.number(3, 1));
    Due.is("and what is made of it", 2, () -> x.number(7, 0));
    Due.is("the least place is p * x + y", 7, () -> {
      PrimePlane y = plane();
      y.make(10, 0, 2, 0);
      y.claim(0, 3, 6, 0, 0);
      return y.everywhere(0, 3, 2);
    });
  }

  private static void everywhereWithVoids() {
    PrimePlane x = plane();
    x.claim(0, 3, 4, 0, 0);
    // y = 0 is made of (1, 0): it turns with the point, and is lacking at (0, 0).
    everywhere(x, 0, 1, 6, 42, 1);
    x.move(1, 0, 0);
    Due.is("void now", -1, () -> x.holds(0));
    everywhere(x, 0, 1, 6, 42, 1);
    everywhere(x, 0, 3, 0, 0, -1);
    Due.is("void again", -1, () -> x.holds(0));
  }

  private static void everywhereOrder() {
    PrimePlane x = plane();
    x.claim(0, 3, 4, 0, 0);
    x.point(4, 5, 0);
    for (int bad : new int[] {-1, 40, Integer.MIN_VALUE, Integer.MAX_VALUE}) {
      Due.noIndex("everywhere(" + bad + ", 0, 0)", x, () -> x.everywhere(bad, 0, 0));
      Due.noIndex("everywhere(0, " + bad + ", 0)", x, () -> x.everywhere(0, bad, 0));
      Due.noIndex("everywhere(0, 0, " + bad + ")", x, () -> x.everywhere(0, 0, bad));
      Due.noIndex("everywhere(0, 4, " + bad + ")", x, () -> x.everywhere(0, 4, bad));
    }
    Due.noIndex("everywhere(1, 0, 0)", x, () -> x.everywhere(1, 0, 0));
    Due.noIndex("everywhere(0, 7, 0)", x, () -> x.everywhere(0, 7, 0));
    Due.noIndex("everywhere(0, 0, 3)", x, () -> x.everywhere(0, 0, 3));
    Due.noState("everywhere(0, 4, 0): a line", x, () -> x.everywhere(0, 4, 0));
    Due.noState("everywhere(0, 5, 0): a circle", x, () -> x.everywhere(0, 5, 0));
    Due.noState("everywhere(0, 6, 0): a point on a line", x, () -> x.everywhere(0, 6, 0));
  }
}
