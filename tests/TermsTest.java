/** The section "Terms": a test for each sentence that names an edge; the sentence stands ahead of its test. */
final class TermsTest {
  private static final int[] PRIMES = {7, 11, 19, 23, 31, 43};

  public static void main(String[] args) {
    for (int p : PRIMES) {
      remainders(p);
      inverses(p);
      roots(p);
      squaresThatAddUpToNothing(p);
      figuresConsistOfPlaces(p);
    }
    leadingNumbers();
    parallelLines();
    perpendicularLines();
    fortyObjects();
    smallerParents();
    lackingByParents();
    madeWhileLacking();
    lackingByThemselves();
    pointsOnLines();
    intersections();
    orderOfX();
    orderOfY();
    oneCommonPlace();
    noCommonPlace();
    circlesInCommon();
    circlesOfOneCentre();
    middles();
    mirrors();
    linesThroughAndBetween();
    linesAlong();
    circlesAround();
    circlesThrough();
    twentyClaims();
    voidClaims();
    claimsOfOneObject();
    threePlacesInLine();
    squaresOfTwoPairs();
    sameObjects();
    threeLinesOfOnePlace();
    Due.end();
  }

  // ---- "The field has p elements, 0 to p - 1, and is reckoned by the remainder of p"

  private static void remainders(int p) {
    int q = p - 1;
    PrimePlane x = Due.plane(p, 0, 0, 1, 1, q, q, q, 0, 0, q, 1, q, 1, 0);
    x.make(7, 1, 2, 0);
    Due.at(x, 7, 0, 0, 0);
    x.make(7, 0, 1, 0);
    Due.at(x, 8, (p + 1) / 2, (p + 1) / 2, 0);
    x.make(7, 0, 2, 0);
    Due.at(x, 9, (p - 1) / 2, (p - 1) / 2, 0);
    x.make(10, 3, 4, 0);
    Due.at(x, 10, 1, 1, 1);
    x.make(10, 0, 5, 0);
    Due.at(x, 11, 1, 1, 0);
    x.make(13, 0, 2, 0);
    Due.at(x, 12, 1, 1, 1);
    x.make(20, 2, 0, 0);
    Due.at(x, 13, q, q, 2);
    x.make(10, 0, 4, 0);
    Due.at(x, 14, 1, 0, 0);
    x.make(8, 6, 14, 0);
    Due.at(x, 15, q, 0, 0);
    x.make(21, 0, 0, 9);
    Due.at(x, 16, 0, 0, (p + 1) / 2);
    x.make(22, 1, 3, 4);
    Due.is("p " + p + " the circle's square is a number", 1,
        () -> x.object(17, 5) == 1 || x.number(17, 2) > 0 && x.number(17, 2) < p ? 1 : 0);
    Due.is("p " + p + " square(0, 2)", 2, () -> x.square(0, 2));
    Due.is("p " + p + " square(2, 1)", 8 % p, () -> x.square(2, 1));
    Due.is("p " + p + " square(3, 6)", 4, () -> x.square(3, 6));
  }

  // ---- "1 / a is the number whose product with a is 1"

  private static void inverses(int p) {
    PrimePlane x = Due.plane(p);
    Due.is("p " + p + " 1 / 1", 1, () -> x.inverse(1));
    Due.is("p " + p + " 1 / (p - 1)", p - 1, () -> x.inverse(p - 1));
    Due.is("p " + p + " 1 / 2", (p + 1) / 2, () -> x.inverse(2));
    Due.is("p " + p + " 1 / ((p + 1) / 2)", 2, () -> x.inverse((p + 1) / 2));
  }

  // ---- "A number q that is a square has two roots, r and p - r (0 has one)"

  private static void roots(int p) {
    PrimePlane x = Due.plane(p);
    Due.is("p " + p + " root(0)", 0, () -> x.root(0));
    Due.is("p " + p + " root(1)", 1, () -> x.root(1));
    Due.is("p " + p + " root(4)", 2, () -> x.root(4));
    int middle = (p - 1) / 2;
    Due.is("p " + p + " the greatest smaller root", middle, () -> x.root(middle * middle % p));
    Due.is("p " + p + " root(p - 1)", -1, () -> x.root(p - 1));
    int squares = 0;
    for (int a = 0; a < p; a++) {
      squares += x.root(a) >= 0 ? 1 : 0;
    }
    int told = squares;
    Due.is("p " + p + " squares among the numbers", (p + 1) / 2, () -> told);
  }

  // ---- "so that a square and another one add up to 0 only if both are 0"

  private static void squaresThatAddUpToNothing(int p) {
    PrimePlane x = Due.plane(p, 2, 3, 4, 5);
    x.claim(5, 0, 1, 0, 0);
    x.make(20, 0, 1, 0);
    x.claim(6, 2, 2, 0, 0);
    Due.is("p " + p + " places whose square from (2, 3) is 0", 1, () -> x.everywhere(0, 1, 0));
    Due.is("p " + p + " places through which a circle goes", p * p - 1, () -> x.everywhere(1, 1, 0));
  }

  // ---- "consists of all places with a * x + b * y + c = 0", "consists of all places whose square .. is s"

  private static void figuresConsistOfPlaces(int p) {
    PrimePlane x = Due.plane(p, 0, 0, 1, 0, 0, 1, p - 1, p - 1, 2, 3);
    x.make(10, 0, 1, 0);
    x.make(10, 0, 2, 0);
    x.make(10, 1, 2, 0);
    x.make(20, 0, 1, 0);
    x.make(20, 3, 2, 0);
    for (int i = 5; i < 10; i++) {
      int figure = i;
      int claim = x.claim(i < 8 ? 0 : 1, 4, i, 0, 0);
      int due = i < 8 ? p : p + 1;
      Due.is("p " + p + " places on object " + i, due, () -> x.everywhere(claim, 4, 0));
      Due.is("p " + p + " places off object " + i, p * p - due, () -> x.everywhere(claim, 4, 1));
      Due.is("p " + p + " places(" + i + ")", due, () -> x.places(figure));
    }
  }

  // ---- "a and b are not both 0, and the first one of a and b that is not 0 is 1"

  private static void leadingNumbers() {
    for (int place = 0; place < 49; place++) {
      PrimePlane x = Due.plane(7, 3, 4, place / 7, place % 7, 5, 6);
      x.make(10, 0, 1, 0);
      x.make(13, 0, 1, 0);
      x.make(11, 2, 3, 0);
      x.make(12, 2, 3, 0);
      x.make(11, 2, 4, 0);
      x.make(12, 2, 4, 0);
      for (int i = 3; i < 9; i++) {
        int line = i;
        int due = place == 25 ? 0 : 1;
        Due.is("way " + x.object(i, 1) + " towards place " + place + " leads with 1", due, () -> {
          boolean there = x.object(line, 5) == 0;
          return there && (x.number(line, 0) == 1 || x.number(line, 0) == 0 && x.number(line, 1) == 1) ? 1 : 0;
        });
      }
    }
  }

  /** The claim of this sort about two objects answers so, in both orders. */
  private static void claimBothWays(PrimePlane x, int sort, int a, int b, int due) {
    int there = x.claim(sort, a, b, 0, 0);
    int back = x.claim(sort, b, a, 0, 0);
    Due.is("claim(" + sort + ", " + a + ", " + b + ", 0, 0) holds", due, () -> x.holds(there));
    Due.is("claim(" + sort + ", " + b + ", " + a + ", 0, 0) holds", due, () -> x.holds(back));
  }

  // ---- "Two lines are parallel if they have the same a and b (also if they are the same)"

  private static void parallelLines() {
    PrimePlane x = Due.plane(11, 0, 0, 1, 0, 0, 3, 0, 1, 9, 1, 8, 1);
    x.make(10, 0, 1, 0);
    x.make(11, 1, 6, 0);
    x.make(11, 2, 6, 0);
    x.make(10, 0, 3, 0);
    // Through (0, 0), (9, 1): x + 2y = 0, and through (0, 0), (8, 1): x + 3y = 0.
    x.make(10, 0, 4, 0);
    x.make(10, 0, 5, 0);
    x.make(11, 1, 10, 0);
    Due.at(x, 10, 1, 2, 0);
    Due.at(x, 11, 1, 3, 0);
    claimBothWays(x, 3, 6, 6, 1);
    claimBothWays(x, 3, 6, 7, 1);
    claimBothWays(x, 3, 6, 8, 1);
    claimBothWays(x, 3, 10, 12, 1);
    claimBothWays(x, 3, 6, 9, 0);
    claimBothWays(x, 3, 9, 10, 0);
    claimBothWays(x, 3, 10, 11, 0);
  }

  // ---- "and perpendicular if the sum of the products of their a and b is 0"

  private static void perpendicularLines() {
    PrimePlane x = Due.plane(11, 0, 0, 1, 0, 0, 1, 9, 1, 6, 1, 4, 1);
    x.make(10, 0, 1, 0);
    x.make(10, 0, 2, 0);
    // x + 2y = 0, x + 5y = 0 and x + 7y = 0: 1 + 2 * 5 = 11, but 1 + 2 * 7 = 15.
    x.make(10, 0, 3, 0);
    x.make(10, 0, 4, 0);
    x.make(10, 0, 5, 0);
    Due.at(x, 8, 1, 2, 0);
    Due.at(x, 9, 1, 5, 0);
    Due.at(x, 10, 1, 7, 0);
    claimBothWays(x, 4, 6, 7, 1);
    claimBothWays(x, 4, 8, 9, 1);
    claimBothWays(x, 4, 8, 10, 0);
    claimBothWays(x, 4, 6, 8, 0);
    // No line is perpendicular to itself, wherever it goes.
    int itself = x.claim(4, 8, 8, 0, 0);
    Due.is("perpendicular to itself", 0, () -> x.everywhere(itself, 3, 0));
    Due.is("not perpendicular to itself", 120, () -> x.everywhere(itself, 3, 1));
  }

  // ---- "There are at most 40, numbered from 0 in the order in which they were made"

  private static void fortyObjects() {
    PrimePlane x = Due.plane(7, 0, 0, 1, 0);
    Due.is("a line", 2, () -> x.make(10, 0, 1, 0));
    Due.is("a circle that is lacking", 3, () -> x.make(20, 0, 0, 0));
    for (int i = 4; i < 40; i++) {
      int n = i;
      Due.is("object " + i, i, () -> n % 3 == 0 ? x.point(-1, 6, n % 7) : n % 3 == 1 ? x.point(2, 6, 0)
          : x.make(7, 0, 1, 0));
    }
    Due.is("40 objects", 40, () -> x.count(1));
    Due.at(x, 39, 6, 4, 0);
    Due.noState("a 41st, free", x, () -> x.point(-1, 0, 0));
    Due.noState("a 41st, on a line", x, () -> x.point(2, 0, 0));
    for (int i = 0; i < Ways.WAYS.length; i++) {
      int way = Ways.WAYS[i];
      int[] g = Ways.chosen(Ways.PARENTS[i], 0, 2, 3);
      Due.noState("a 41st, of way " + way, x, () -> x.make(way, g[0], g[1], g[2]));
    }
    Due.noIndex("object(40, 0)", x, () -> x.object(40, 0));
  }

  // ---- "is made of objects with smaller numbers, its parents"

  private static void smallerParents() {
    for (int i = 0; i < Ways.WAYS.length; i++) {
      int way = Ways.WAYS[i];
      PrimePlane x = Due.plane(7, 0, 0, 1, 0);
      x.make(10, 0, 1, 0);
      x.make(20, 0, 1, 0);
      for (int k = 0; k < Ways.PARENTS[i].length(); k++) {
        int[] g = Ways.chosen(Ways.PARENTS[i], 1, 2, 3);
        g[k] = 4;
        Due.noIndex("way " + way + ": itself for parent " + k, x, () -> x.make(way, g[0], g[1], g[2]));
        g[k] = 5;
        Due.noIndex("way " + way + ": a later one for parent " + k, x, () -> x.make(way, g[0], g[1], g[2]));
      }
      int[] g = Ways.chosen(Ways.PARENTS[i], 1, 2, 3);
      Due.is("way " + way + " of earlier ones", 4, () -> x.make(way, g[0], g[1], g[2]));
    }
    PrimePlane y = Due.plane(7, 0, 0, 1, 0);
    Due.noIndex("a point on a line that is not made yet", y, () -> y.point(2, 0, 0));
  }

  // ---- "An object is lacking, if a parent is .. it comes back when it can be made again"

  /** Each way with the fragile object for each one of its parents. */
  private static void makeAllWays(PrimePlane x) {
    for (int i = 0; i < Ways.WAYS.length; i++) {
      for (int k = 0; k < Ways.PARENTS[i].length(); k++) {
        int[] g = Ways.parents(i, k, 6, 4, 5);
        x.make(Ways.WAYS[i], g[0], g[1], g[2]);
      }
    }
  }

  private static void lackingByParents() {
    PrimePlane x = Ways.fragile(0, 1);
    makeAllWays(x);
    Due.is("objects", 39, () -> x.count(1));
    Due.is("none is lacking", 0, () -> x.count(4));
    long before = x.digest();
    Due.is("all but the steady ones are gone", 33, () -> x.move(1, 0, 0));
    for (int i = 9; i < 39; i++) {
      Due.lacks(x, i);
    }
    Due.is("all come back", 0, () -> x.move(1, 0, 1));
    Due.isLong("as they were", before, x.digest());
    // A parent's parent: lacking goes on from one to the next.
    PrimePlane y = Due.plane(7, 0, 0, 1, 0);
    y.make(10, 0, 1, 0);
    y.point(2, 3, 0);
    y.make(12, 3, 2, 0);
    y.make(8, 0, 4, 0);
    y.make(20, 5, 1, 0);
    y.point(-1, 5, 5);
    Due.is("a chain of five", 5, () -> y.move(0, 1, 0));
    Due.is("is back", 0, () -> y.move(0, 0, 0));
  }

  private static void madeWhileLacking() {
    PrimePlane x = Ways.fragile(0, 1);
    makeAllWays(x);
    PrimePlane y = Ways.fragile(0, 0);
    makeAllWays(y);
    Due.is("made while parents are lacking", 33, () -> y.count(4));
    Due.is("they come", 0, () -> y.move(1, 0, 1));
    Due.isLong("as if made of what is there", x.digest(), y.digest());
  }

  // ---- "or it cannot be made (as told below)"

  private static void lackingByThemselves() {
    PrimePlane x = Due.plane(7, 0, 0, 1, 0, 0, 1, 3, 0);
    x.make(10, 0, 1, 0);
    x.make(10, 2, 3, 0);
    x.make(2, 4, 5, 0);
    Due.at(x, 6, 3, 0, 0);
    Due.is("the lines are parallel", 1, () -> x.move(3, 3, 1));
    Due.lacks(x, 6);
    Due.is("the lines are the same", 1, () -> {
      x.move(2, 5, 0);
      return x.move(3, 3, 0);
    });
    Due.lacks(x, 6);
    Due.is("they meet", 0, () -> x.move(2, 5, 1));
    Due.at(x, 6, 3, 0, 0);
  }

  // ---- "1 on a line, with a number t: x = t, if b of the line is not 0, otherwise y = t"

  private static void pointsOnLines() {
    for (int p : PRIMES) {
      int q = p - 1;
      PrimePlane x = Due.plane(p, 0, 2, 1, 2, 2, 0, 2, 1, 0, 0, 1, 1, 0, 1);
      // 7: y = 2 (a is 0), 8: x = 2 (b is 0), 9: x - y = 0, 10: x - y = -1.
      x.make(10, 0, 1, 0);
      x.make(10, 2, 3, 0);
      x.make(10, 4, 5, 0);
      x.make(11, 6, 9, 0);
      int[] lines = {7, 7, 8, 8, 9, 9, 10, 10};
      int[] xs = {0, q, 2, 2, 0, q, 0, q};
      int[] ys = {2, 2, 0, q, 0, q, 1, 0};
      for (int i = 0; i < lines.length; i++) {
        int n = i;
        Due.is("p " + p + " on line " + lines[i], 11 + i, () -> x.point(lines[n], n % 2 == 0 ? 0 : q, 0));
        Due.at(x, 11 + i, xs[i], ys[i], 0);
      }
    }
    // The line turns under the point: t is its x, then its y, then its x again.
    PrimePlane x = Due.plane(7, 0, 0, 1, 0);
    x.make(10, 0, 1, 0);
    x.point(2, 5, 0);
    Due.at(x, 3, 5, 0, 0);
    x.move(1, 0, 1);
    Due.at(x, 3, 0, 5, 0);
    x.move(1, 1, 1);
    Due.at(x, 3, 5, 5, 0);
  }

  // ---- "2 the intersection of two lines (lacking, if they are parallel)"

  private static void intersections() {
    PrimePlane x = Due.plane(7, 0, 0, 1, 0, 0, 3, 5, 0);
    x.make(10, 0, 1, 0);
    x.make(11, 2, 4, 0);
    x.make(10, 0, 3, 0);
    x.make(10, 2, 3, 0);
    x.make(12, 3, 4, 0);
    x.make(2, 4, 5, 0);
    Due.lacks(x, 9);
    x.make(2, 4, 4, 0);
    Due.lacks(x, 10);
    x.make(2, 4, 6, 0);
    Due.lacks(x, 11);
    x.make(2, 4, 7, 0);
    Due.at(x, 12, 5, 0, 0);
    x.make(2, 7, 4, 0);
    Due.at(x, 13, 5, 0, 0);
    x.make(2, 8, 5, 0);
    Due.at(x, 14, 5, 3, 0);
    x.make(2, 5, 8, 0);
    Due.at(x, 15, 5, 3, 0);
    x.make(2, 7, 8, 0);
    Due.at(x, 16, 5, 0, 0);
  }

  // ---- "the places in common are in ascending order of x"

  private static void orderOfX() {
    // The circle around (0, 0) with the square 1: 0 1, 0 6, 1 0, 2 2, 2 5, 5 2, 5 5, 6 0.
    PrimePlane x = Due.plane(7, 0, 0, 1, 0, 5, 0, 0, 2, 0, 1);
    x.make(20, 0, 1, 0);
    x.make(10, 0, 1, 0);
    x.make(3, 6, 5, 0);
    x.make(4, 6, 5, 0);
    Due.at(x, 7, 1, 0, 0);
    Due.at(x, 8, 6, 0, 0);
    x.make(11, 3, 6, 0);
    x.make(3, 9, 5, 0);
    x.make(4, 9, 5, 0);
    Due.at(x, 10, 2, 2, 0);
    Due.at(x, 11, 5, 2, 0);
    // Of x + y = 1 the lower x has the greater y.
    x.make(10, 4, 1, 0);
    x.make(4, 12, 5, 0);
    x.make(3, 12, 5, 0);
    Due.at(x, 13, 1, 0, 0);
    Due.at(x, 14, 0, 1, 0);
    // Around (5, 0): the numbers are in order, wherever the centre is.
    x.make(21, 2, 0, 1);
    x.make(3, 6, 15, 0);
    x.make(4, 6, 15, 0);
    Due.at(x, 16, 4, 0, 0);
    Due.at(x, 17, 6, 0, 0);
    x.move(2, 6, 0);
    Due.at(x, 16, 0, 0, 0);
    Due.at(x, 17, 5, 0, 0);
  }

  // ---- "of the same x of y"

  private static void orderOfY() {
    PrimePlane x = Due.plane(7, 0, 0, 0, 1, 2, 0);
    x.make(20, 0, 1, 0);
    x.make(10, 0, 1, 0);
    x.make(3, 4, 3, 0);
    x.make(4, 4, 3, 0);
    Due.at(x, 5, 0, 1, 0);
    Due.at(x, 6, 0, 6, 0);
    x.make(11, 2, 4, 0);
    x.make(4, 7, 3, 0);
    x.make(3, 7, 3, 0);
    Due.at(x, 8, 2, 5, 0);
    Due.at(x, 9, 2, 2, 0);
    // Around (2, 0) with the square 1: both circles have x = 1 in common, and 1 - 1 = 0 is one place only.
    x.make(21, 2, 0, 1);
    x.make(5, 3, 10, 0);
    x.make(6, 3, 10, 0);
    Due.at(x, 11, 1, 0, 0);
    Due.at(x, 12, 1, 0, 0);
    // Around (4, 0): x = 2.
    x.move(2, 4, 0);
    Due.at(x, 11, 2, 2, 0);
    Due.at(x, 12, 2, 5, 0);
    // Around (3, 0): x = 5; the order of the circles does not matter.
    x.move(2, 3, 0);
    x.make(5, 10, 3, 0);
    x.make(6, 10, 3, 0);
    Due.at(x, 13, 5, 2, 0);
    Due.at(x, 14, 5, 5, 0);
  }

  // ---- "if there is only one, it is the first and the second one"

  private static void oneCommonPlace() {
    PrimePlane x = Due.plane(7, 0, 0, 1, 0, 2, 2);
    x.make(20, 0, 1, 0);
    x.make(10, 0, 2, 0);
    x.make(12, 2, 4, 0);
    x.make(3, 5, 3, 0);
    x.make(4, 5, 3, 0);
    Due.at(x, 6, 2, 2, 0);
    Due.at(x, 7, 2, 2, 0);
    // Around (4, 4) through (2, 2): the circles touch there.
    x.point(-1, 4, 4);
    x.make(20, 8, 2, 0);
    x.make(5, 3, 9, 0);
    x.make(6, 3, 9, 0);
    Due.at(x, 10, 2, 2, 0);
    Due.at(x, 11, 2, 2, 0);
  }

  // ---- "if there is none, the object is lacking"

  private static void noCommonPlace() {
    PrimePlane x = Due.plane(7, 0, 0, 1, 0, 3, 0);
    x.make(20, 0, 1, 0);
    x.make(10, 0, 1, 0);
    x.make(12, 2, 4, 0);
    x.make(3, 5, 3, 0);
    x.make(4, 5, 3, 0);
    // x = 3: 1 - 9 = 6 is no square.
    Due.lacks(x, 6);
    Due.lacks(x, 7);
    x.make(21, 2, 0, 1);
    x.make(5, 3, 8, 0);
    x.make(6, 3, 8, 0);
    // Around (1, 0): x = 1 / 2 = 4, and 1 - 16 = 6 is no square.
    Due.is("only the circles have none", 2, () -> x.move(2, 1, 0));
    Due.lacks(x, 9);
    Due.lacks(x, 10);
    Due.at(x, 6, 1, 0, 0);
    Due.is("all are there", 0, () -> x.move(2, 2, 0));
    Due.at(x, 6, 2, 2, 0);
    Due.at(x, 9, 1, 0, 0);
  }

  // ---- "5 and 6 likewise for two circles (lacking, if their centres are at the same place)"

  private static void circlesInCommon() {
    PrimePlane x = Due.plane(7, 0, 0, 1, 0, 2, 3);
    x.make(20, 0, 1, 0);
    x.make(21, 2, 0, 1);
    x.make(5, 3, 4, 0);
    x.make(6, 3, 4, 0);
    // 4x + 6y = 13 = 6 and x * x + y * y = 1: y = 1 + 4x, 17 x * x + 8x = 0, so x is 0 or -8 / 3 = 2.
    Due.at(x, 5, 0, 1, 0);
    Due.at(x, 6, 2, 2, 0);
    // Both away from (0, 0): the same, seen from (3, 5).
    PrimePlane y = Due.plane(7, 3, 5, 4, 5, 5, 1);
    y.make(20, 0, 1, 0);
    y.make(21, 2, 0, 1);
    y.make(5, 3, 4, 0);
    y.make(6, 3, 4, 0);
    y.make(5, 4, 3, 0);
    y.make(6, 4, 3, 0);
    for (int i = 5; i < 9; i++) {
      Due.at(y, i, i % 2 == 1 ? 3 : 5, i % 2 == 1 ? 6 : 0, 0);
    }
  }

  private static void circlesOfOneCentre() {
    PrimePlane x = Due.plane(7, 0, 0, 1, 0, 0, 0, 3, 3);
    x.make(20, 0, 1, 0);
    x.make(20, 0, 3, 0);
    x.make(20, 2, 1, 0);
    int n = 7;
    int[][] pairs = {{4, 4}, {4, 5}, {5, 4}, {4, 6}, {6, 4}, {5, 6}};
    for (int[] pair : pairs) {
      x.make(5, pair[0], pair[1], 0);
      x.make(6, pair[0], pair[1], 0);
      Due.lacks(x, n);
      Due.lacks(x, n + 1);
      n += 2;
    }
    // The third circle goes to (2, 0) with the square 1, and touches the first at (1, 0).
    x.move(2, 2, 0);
    Due.at(x, 13, 1, 0, 0);
    Due.at(x, 14, 1, 0, 0);
    Due.lacks(x, 7);
    Due.lacks(x, 9);
  }

  // ---- "7 the middle of two points"

  private static void middles() {
    PrimePlane x = Due.plane(7, 0, 0, 6, 6, 6, 6, 1, 2);
    x.make(7, 1, 2, 0);
    Due.at(x, 4, 6, 6, 0);
    x.make(7, 1, 1, 0);
    Due.at(x, 5, 6, 6, 0);
    x.make(7, 0, 1, 0);
    Due.at(x, 6, 3, 3, 0);
    x.make(7, 1, 3, 0);
    Due.at(x, 7, 0, 4, 0);
    x.make(7, 3, 0, 0);
    Due.at(x, 8, 4, 1, 0);
  }

  // ---- "8 the mirror of a point at a line: .. perpendicular to it" "(if they are not at the same place)"

  private static void mirrors() {
    PrimePlane x = Due.plane(7, 0, 0, 1, 0, 0, 1, 3, 5, 6, 6);
    x.make(10, 0, 1, 0);
    x.make(10, 0, 2, 0);
    x.make(10, 1, 2, 0);
    x.make(8, 3, 5, 0);
    Due.at(x, 8, 3, 2, 0);
    x.make(8, 3, 6, 0);
    Due.at(x, 9, 4, 5, 0);
    x.make(8, 4, 7, 0);
    Due.at(x, 10, 2, 2, 0);
    x.make(8, 10, 7, 0);
    Due.at(x, 11, 6, 6, 0);
    // On the line it is its own mirror.
    x.make(8, 3, 7, 0);
    Due.at(x, 12, 3, 5, 0);
    x.make(8, 0, 5, 0);
    Due.at(x, 13, 0, 0, 0);
    x.make(8, 0, 6, 0);
    Due.at(x, 14, 0, 0, 0);
  }

  // ---- "10 through two points (lacking, if they are at the same place)", "13 .. (lacking, if the points are ..)"

  private static void linesThroughAndBetween() {
    for (int way : new int[] {10, 13}) {
      PrimePlane x = Due.plane(7, 2, 5, 2, 5, 2, 6);
      x.make(way, 0, 0, 0);
      Due.lacks(x, 3);
      x.make(way, 0, 1, 0);
      Due.lacks(x, 4);
      Due.is("only y is another one", 1, () -> x.move(1, 2, 6));
      Due.at(x, 4, way == 10 ? 1 : 0, way == 10 ? 0 : 1, way == 10 ? 5 : 5);
      Due.is("only x is another one", 1, () -> x.move(1, 3, 5));
      Due.at(x, 4, way == 10 ? 0 : 1, way == 10 ? 1 : 0, way == 10 ? 2 : 1);
      Due.is("the same place again", 2, () -> x.move(1, 2, 5));
      x.make(way, 1, 2, 0);
      x.make(way, 2, 1, 0);
      Due.at(x, 5, way == 10 ? 1 : 0, way == 10 ? 0 : 1, 5);
      Due.at(x, 6, way == 10 ? 1 : 0, way == 10 ? 0 : 1, 5);
    }
  }

  // ---- "11 through a point, parallel to a line; 12 through a point, perpendicular to a line"

  private static void linesAlong() {
    PrimePlane x = Due.plane(7, 0, 0, 1, 0, 0, 1, 3, 5);
    // 4: y = 0, 5: x = 0, 6: x + y = 1.
    x.make(10, 0, 1, 0);
    x.make(10, 0, 2, 0);
    x.make(10, 1, 2, 0);
    int[][] due = {{11, 3, 4, 0, 1, 2}, {11, 3, 5, 1, 0, 4}, {11, 0, 6, 1, 1, 0}, {12, 3, 4, 1, 0, 4},
        {12, 3, 5, 0, 1, 2}, {12, 0, 6, 1, 6, 0}};
    for (int i = 0; i < due.length; i++) {
      x.make(due[i][0], due[i][1], due[i][2], 0);
      Due.at(x, 7 + i, due[i][3], due[i][4], due[i][5]);
    }
    // Through a point of the line itself: the parallel is the line.
    x.make(11, 0, 4, 0);
    Due.at(x, 13, 0, 1, 0);
    x.make(11, 3, 6, 0);
    Due.at(x, 14, 1, 1, 6);
    x.make(12, 3, 6, 0);
    Due.at(x, 15, 1, 6, 2);
  }

  // ---- "20 .. (lacking, if they are at the same place); 21 .. (lacking, if these are at the same place)"

  private static void circlesAround() {
    PrimePlane x = Due.plane(7, 2, 5, 2, 5, 4, 6);
    x.make(20, 0, 0, 0);
    Due.lacks(x, 3);
    x.make(20, 0, 1, 0);
    Due.lacks(x, 4);
    x.make(21, 2, 0, 0);
    Due.lacks(x, 5);
    x.make(21, 2, 0, 1);
    Due.lacks(x, 6);
    x.make(21, 0, 0, 1);
    Due.lacks(x, 7);
    // Only the two others matter: the centre may be at the place of one of them.
    x.make(21, 0, 1, 2);
    Due.at(x, 8, 2, 5, 5);
    x.make(21, 2, 2, 0);
    Due.at(x, 9, 4, 6, 5);
    x.make(21, 2, 0, 2);
    Due.at(x, 10, 4, 6, 5);
    Due.is("they are apart", 2, () -> x.move(1, 2, 4));
    Due.at(x, 4, 2, 5, 1);
    Due.at(x, 6, 4, 6, 1);
    Due.at(x, 7, 2, 5, 1);
    Due.lacks(x, 3);
    Due.lacks(x, 5);
    Due.is("and the same again", 5, () -> x.move(1, 2, 5));
  }

  // ---- "22 through three points (lacking, if there is a line through all three places)"

  private static void circlesThrough() {
    PrimePlane x = Due.plane(7, 0, 0, 1, 0, 0, 1, 3, 0, 0, 0);
    x.make(22, 0, 1, 3);
    Due.lacks(x, 5);
    x.make(22, 0, 0, 0);
    Due.lacks(x, 6);
    x.make(22, 0, 1, 1);
    Due.lacks(x, 7);
    x.make(22, 1, 0, 1);
    Due.lacks(x, 8);
    x.make(22, 1, 1, 0);
    Due.lacks(x, 9);
    x.make(22, 0, 4, 2);
    Due.lacks(x, 10);
    int[][] orders = {{0, 1, 2}, {0, 2, 1}, {1, 0, 2}, {1, 2, 0}, {2, 0, 1}, {2, 1, 0}};
    for (int i = 0; i < orders.length; i++) {
      x.make(22, orders[i][0], orders[i][1], orders[i][2]);
      Due.at(x, 11 + i, 4, 4, 4);
    }
    Due.is("the last one is no more in line with two others", 5, () -> x.move(3, 3, 1));
    Due.is("the centre of the circle through them", 4, () -> x.number(5, 0));
    // x + y = 1, the wrap-around of 8, goes through the first three.
    Due.is("three in line by the remainder", 10, () -> x.move(0, 5, 3));
    for (int i = 11; i < 17; i++) {
      Due.lacks(x, i);
    }
  }

  // ---- "There are at most 20, numbered likewise"

  private static void twentyClaims() {
    PrimePlane x = Due.plane(7, 0, 0, 1, 0);
    x.make(10, 0, 1, 0);
    x.make(20, 0, 1, 0);
    for (int i = 0; i < 20; i++) {
      int sort = i % 8;
      int[] g = Ways.chosen(Ways.SUBJECTS[sort], 1, 2, 3);
      Due.is("claim " + i, i, () -> x.claim(sort, g[0], g[1], g[2], g[3]));
    }
    Due.is("20 claims", 20, () -> x.count(2));
    for (int i = 0; i < 8; i++) {
      int sort = i;
      int[] g = Ways.chosen(Ways.SUBJECTS[sort], 1, 2, 3);
      Due.noState("a 21st of sort " + sort, x, () -> x.claim(sort, g[0], g[1], g[2], g[3]));
    }
    Due.noIndex("holds(20)", x, () -> x.holds(20));
  }

  // ---- "A claim holds, fails, or is void, if one of its objects is lacking"

  private static void voidClaims() {
    for (int sort = 0; sort < 8; sort++) {
      for (int k = 0; k < Ways.SUBJECTS[sort].length(); k++) {
        PrimePlane x = Ways.fragile(0, 1);
        int[] g = Ways.chosen(Ways.SUBJECTS[sort], 2, 7, 8);
        int[] steady = g.clone();
        g[k] = Ways.chosen(Ways.SUBJECTS[sort], 6, 4, 5)[k];
        x.claim(sort, g[0], g[1], g[2], g[3]);
        x.claim(sort, steady[0], steady[1], steady[2], steady[3]);
        String name = "sort " + sort + ", object " + k;
        int there = x.holds(0);
        Due.is(name + " is there", 1, () -> there == 0 || there == 1 ? 1 : 0);
        x.move(1, 0, 0);
        Due.is(name + " is lacking", -1, () -> x.holds(0));
        Due.is(name + ": the other claim is not void", 1, () -> x.holds(1) >= 0 ? 1 : 0);
        x.move(1, 0, 1);
        Due.is(name + " is back", there, () -> x.holds(0));
      }
    }
    // Two lines or two circles that are lacking are not the same either.
    PrimePlane x = Ways.fragile(0, 0);
    x.claim(6, 4, 4, 0, 0);
    x.claim(6, 5, 5, 0, 0);
    x.claim(6, 6, 6, 0, 0);
    for (int i = 0; i < 3; i++) {
      int claim = i;
      Due.is("same as itself, but lacking", -1, () -> x.holds(claim));
    }
  }

  /** What is told of objects that may be one and the same. */
  private static void claimsOfOneObject() {
    PrimePlane x = Due.plane(7, 0, 0, 1, 0);
    x.make(10, 0, 1, 0);
    x.make(20, 0, 1, 0);
    int[] due = {1, 1, 1, 1, 0, 1, 1, 1};
    for (int sort = 0; sort < 8; sort++) {
      int[] g = Ways.chosen(Ways.SUBJECTS[sort], 1, 2, 3);
      int claim = x.claim(sort, g[0], g[1], g[2], g[3]);
      Due.is("sort " + sort + " of one object", due[sort], () -> x.holds(claim));
    }
  }

  private static void claim(PrimePlane x, int due, int sort, int a, int b, int c, int d) {
    int claim = x.claim(sort, a, b, c, d);
    Due.is("claim(" + sort + ", " + a + ", " + b + ", " + c + ", " + d + ") holds", due, () -> x.holds(claim));
  }

  // ---- "2 there is a line through the places of three points": also if some are at the same place

  private static void threePlacesInLine() {
    PrimePlane x = Due.plane(7, 2, 3, 5, 1, 6, 5, 2, 3, 2, 4, 2, 6, 1, 3);
    // (2, 3) + 1 / 3 * (3, -2) = (3, 0), and (2, 3) - (3, -2) = (6, 5) by the remainder.
    claim(x, 1, 2, 0, 1, 2, 0);
    claim(x, 1, 2, 2, 0, 1, 0);
    claim(x, 0, 2, 0, 1, 4, 0);
    claim(x, 0, 2, 4, 0, 1, 0);
    claim(x, 1, 2, 0, 4, 5, 0);
    claim(x, 1, 2, 5, 0, 4, 0);
    claim(x, 0, 2, 0, 4, 6, 0);
    claim(x, 0, 2, 6, 5, 4, 0);
    claim(x, 1, 2, 0, 3, 1, 0);
    claim(x, 1, 2, 1, 0, 3, 0);
    claim(x, 1, 2, 0, 0, 3, 0);
    claim(x, 1, 2, 4, 4, 4, 0);
  }

  // ---- "5 the square of two points is that of two others": also if both are 0

  private static void squaresOfTwoPairs() {
    PrimePlane x = Due.plane(7, 2, 3, 2, 3, 6, 6, 0, 0, 1, 2, 3, 3);
    claim(x, 1, 5, 0, 1, 2, 2);
    claim(x, 0, 5, 0, 1, 2, 3);
    claim(x, 0, 5, 2, 3, 0, 1);
    claim(x, 1, 5, 0, 2, 2, 1);
    // 16 + 9 = 4, 4 + 0 = 4; 1 + 1 = 2, 9 + 0 = 2 and 36 + 36 = 2.
    claim(x, 0, 5, 0, 2, 0, 4);
    claim(x, 1, 5, 0, 4, 2, 3);
    claim(x, 1, 5, 2, 3, 4, 0);
    claim(x, 0, 5, 0, 4, 0, 5);
  }

  // ---- "6 two points are at the same place, or two lines or two circles are the same"

  private static void sameObjects() {
    PrimePlane x = Due.plane(7, 2, 3, 2, 3, 2, 4, 3, 3);
    x.make(10, 0, 2, 0);
    x.make(11, 1, 4, 0);
    x.make(11, 3, 4, 0);
    x.make(12, 0, 4, 0);
    x.make(20, 0, 2, 0);
    x.make(20, 1, 3, 0);
    x.make(21, 0, 2, 3);
    x.make(20, 2, 0, 0);
    x.make(20, 3, 0, 0);
    claim(x, 1, 6, 0, 1, 0, 0);
    claim(x, 0, 6, 0, 2, 0, 0);
    claim(x, 0, 6, 0, 3, 0, 0);
    claim(x, 1, 6, 4, 5, 0, 0);
    // Parallel, and perpendicular.
    claim(x, 0, 6, 4, 6, 0, 0);
    claim(x, 0, 6, 4, 7, 0, 0);
    claim(x, 1, 6, 8, 9, 0, 0);
    // Of one centre but another square, and of one square but another centre.
    claim(x, 0, 6, 8, 10, 0, 0);
    claim(x, 0, 6, 8, 11, 0, 0);
    claim(x, 0, 6, 8, 12, 0, 0);
  }

  // ---- "7 there is a place that three lines have in common": also if some are the same

  private static void threeLinesOfOnePlace() {
    PrimePlane x = sevenLines();
    claimOfLines(x, 1, 4, 7, 8);
    claimOfLines(x, 1, 4, 5, 8);
    claimOfLines(x, 1, 4, 4, 4);
    claimOfLines(x, 1, 8, 9, 10);
    PrimePlane y = sevenLines();
    claimOfLines(y, 0, 4, 7, 9);
    claimOfLines(y, 0, 4, 5, 6);
    claimOfLines(y, 0, 4, 6, 7);
    claimOfLines(y, 0, 4, 6, 10);
  }

  /** 4: x = 2, 5: x = 2, 6: x = 4, 7: y = 3, 8 and 9: to (3, 6) from (2, 3) and from (2, 5), 10: x = 3. */
  private static PrimePlane sevenLines() {
    PrimePlane x = Due.plane(7, 2, 3, 2, 5, 4, 3, 3, 6);
    x.make(10, 0, 1, 0);
    x.make(11, 1, 4, 0);
    x.make(11, 2, 4, 0);
    x.make(10, 0, 2, 0);
    x.make(10, 0, 3, 0);
    x.make(10, 1, 3, 0);
    x.make(11, 3, 4, 0);
    return x;
  }

  /** The order of the lines does not matter. */
  private static void claimOfLines(PrimePlane x, int due, int a, int b, int c) {
    claim(x, due, 7, a, b, c, 0);
    claim(x, due, 7, b, c, a, 0);
    claim(x, due, 7, c, a, b, 0);
    claim(x, due, 7, c, b, a, 0);
  }
}
