import java.math.BigInteger;

/** Promises 1 to 18: a test for each sentence that names an edge; what is refused stands in RefusalTest too. */
final class PromiseEdgesTest {
  private static final int[] PRIMES = {7, 11, 19, 23, 31, 43};
  private static final int MIN = Integer.MIN_VALUE;
  private static final int MAX = Integer.MAX_VALUE;

  public static void main(String[] args) {
    newPlaneOfGreatestP();
    newPlanesAreApart();
    beginTellsPlaces();
    beginTakesSixPrimes();
    beginClearsAFullPlane();
    beginAnewOfOtherNumbers();
    inverseEdges();
    rootEdges();
    countEmptyAndFull();
    countLacking();
    pointEdges();
    pointOfAnyY();
    makeWithoutThirdParent();
    moveTellsAllLacking();
    moveToTheSamePlace();
    moveEdges();
    objectOfEachSort();
    objectTellsLackingNow();
    numberOfEachSort();
    placesOfEachSort();
    squareEdges();
    claimNumbers();
    claimOfLackingObjects();
    holdsAllThree();
    everywhereAllOrNothing();
    everywhereLeastPlace();
    everywhereBehindVoids();
    everywhereAsIfMoved();
    everywherePutsBack();
    locusOfNoneToThree();
    locusOfThreeNotInLine();
    locusOfThreeInLineAndOneMore();
    locusOfFour();
    locusOfItself();
    locusAsIfMoved();
    locusPutsBack();
    truthOfNone();
    truthOfParts();
    digestOfNothing();
    digestWrapsAround();
    digestLeavesOutNumbers();
    Due.end();
  }

  /** 0 (0, 0), 1 (1, 0), 2 the line y = 0, 3 the circle of the square 1. */
  private static PrimePlane oneOfEach(int p) {
    PrimePlane x = Due.plane(p, 0, 0, 1, 0);
    x.make(10, 0, 1, 0);
    x.make(20, 0, 1, 0);
    return x;
  }

  // ---- 1: "Creates a plane with p = 43, without objects and claims."

  private static void newPlaneOfGreatestP() {
    PrimePlane x = new PrimePlane();
    Due.is("new: p", 43, () -> x.count(0));
    for (int i = 1; i < 5; i++) {
      int what = i;
      Due.is("new: count(" + i + ")", 0, () -> x.count(what));
    }
    Due.noIndex("new: object(0, 0)", x, () -> x.object(0, 0));
    Due.noIndex("new: number(0, 0)", x, () -> x.number(0, 0));
    Due.noIndex("new: places(0)", x, () -> x.places(0));
    Due.noIndex("new: square(0, 0)", x, () -> x.square(0, 0));
    Due.noIndex("new: move(0, 0, 0)", x, () -> x.move(0, 0, 0));
    Due.noIndex("new: holds(0)", x, () -> x.holds(0));
    Due.noIndex("new: everywhere(0, 0, 0)", x, () -> x.everywhere(0, 0, 0));
    Due.noIndex("new: locus(0, 0, 0)", x, () -> x.locus(0, 0, 0));
    Due.is("new: 1 / 42", 42, () -> x.inverse(42));
    Due.noArgument("new: inverse(43)", x, () -> x.inverse(43));
    Due.is("new: root(42)", -1, () -> x.root(42));
    Due.noArgument("new: root(43)", x, () -> x.root(43));
    Due.noArgument("new: point(-1, 43, 0)", x, () -> x.point(-1, 43, 0));
    Due.noArgument("new: point(-1, 0, 43)", x, () -> x.point(-1, 0, 43));
    Due.is("new: the first object", 0, () -> x.point(-1, 42, 42));
    Due.is("new: the first claim", 0, () -> x.claim(6, 0, 0, 0, 0));
  }

  private static void newPlanesAreApart() {
    PrimePlane x = oneOfEach(7);
    x.claim(0, 0, 2, 0, 0);
    PrimePlane y = new PrimePlane();
    Due.is("the other one's p", 43, () -> y.count(0));
    Due.is("the other one's objects", 0, () -> y.count(1));
    Due.is("the other one's claims", 0, () -> y.count(2));
    y.point(-1, 42, 42);
    Due.is("this one's p", 7, () -> x.count(0));
    Due.at(x, 0, 0, 0, 0);
    Due.at(y, 0, 42, 42, 0);
  }

  // ---- 2: "Returns the number of places."

  private static void beginTellsPlaces() {
    int[] due = {49, 121, 361, 529, 961, 1849};
    PrimePlane x = new PrimePlane();
    for (int i = 0; i < 6; i++) {
      int p = PRIMES[i];
      Due.is("begin(" + p + ")", due[i], () -> x.begin(p));
      Due.is("begin(" + p + ") again", due[i], () -> x.begin(p));
      Due.is("p", p, () -> x.count(0));
    }
  }

  // ---- 2: "if p is not 7, 11, 19, 23, 31 or 43"

  private static void beginTakesSixPrimes() {
    PrimePlane x = oneOfEach(19);
    x.claim(0, 0, 2, 0, 0);
    for (int i = -45; i < 100; i++) {
      int p = i;
      boolean one = p == 7 || p == 11 || p == 19 || p == 23 || p == 31 || p == 43;
      if (!one) {
        Due.noArgument("begin(" + p + ")", x, () -> x.begin(p));
      }
    }
    Due.is("p is as it was", 19, () -> x.count(0));
    PrimePlane y = oneOfEach(7);
    for (int p : new int[] {MIN, MIN + 7, MAX, 256 + 7, 65536 + 11, -7, -43}) {
      Due.noArgument("begin(" + p + ")", y, () -> y.begin(p));
    }
  }

  // ---- 2: "all objects and claims are gone"

  private static PrimePlane full() {
    PrimePlane x = oneOfEach(11);
    x.make(10, 0, 0, 0);
    x.point(4, 7, 0);
    x.point(2, 7, 0);
    for (int i = 7; i < 40; i++) {
      x.make(22, 0, 1, i - 1 > 6 ? 5 : 6);
    }
    for (int i = 0; i < 20; i++) {
      x.claim(0, i % 2, i % 3 == 0 ? 4 : 2, 0, 0);
    }
    return x;
  }

  private static void beginClearsAFullPlane() {
    for (int p : new int[] {11, 43}) {
      PrimePlane x = full();
      Due.is("40 objects", 40, () -> x.count(1));
      Due.is("20 claims", 20, () -> x.count(2));
      Due.is("lacking", 35, () -> x.count(4));
      Due.is("begin(" + p + ")", p * p, () -> x.begin(p));
      for (int i = 1; i < 5; i++) {
        int what = i;
        Due.is("gone: count(" + i + ")", 0, () -> x.count(what));
      }
      Due.noIndex("gone: object(0, 0)", x, () -> x.object(0, 0));
      Due.noIndex("gone: object(39, 0)", x, () -> x.object(39, 0));
      Due.noIndex("gone: holds(0)", x, () -> x.holds(0));
      Due.noIndex("gone: holds(19)", x, () -> x.holds(19));
      Due.noIndex("gone: the line 2", x, () -> x.point(2, 0, 0));
      Due.is("truth is that of no claims", 1, () -> x.truth());
      PrimePlane fresh = new PrimePlane();
      fresh.begin(p);
      fill(x);
      fill(fresh);
      Due.isLong("as on a new plane", fresh.digest(), x.digest());
      Due.is("room for 40", 40, () -> x.count(1));
      Due.is("room for 20", 20, () -> x.count(2));
    }
  }

  /** Other objects in the places of those that were. */
  private static void fill(PrimePlane x) {
    for (int i = 0; i < 10; i++) {
      x.point(-1, i, 3 * i % 7);
    }
    for (int i = 0; i < 10; i++) {
      x.make(10, i, (i + 1) % 10, 0);
      x.make(13, i, (i + 2) % 10, 0);
      x.point(10, i, 0);
    }
    for (int i = 0; i < 20; i++) {
      x.claim(3, 10, i % 10 * 3 + 11, 0, 0);
    }
  }

  // ---- 2: "Begins a plane anew": the numbers are those of the new p

  private static void beginAnewOfOtherNumbers() {
    PrimePlane x = new PrimePlane();
    for (int p : new int[] {43, 7, 31, 11, 23, 19, 43}) {
      x.begin(p);
      for (int i = 1; i < p; i += 3) {
        int a = i;
        Due.is("p " + p + " " + a + " / " + a, 1, () -> a * x.inverse(a) % p);
        Due.is("p " + p + " root of " + a + " * " + a, Math.min(a, p - a), () -> x.root(a * a % p));
      }
      Due.is("p " + p + " root(p - 1)", -1, () -> x.root(p - 1));
      Due.noArgument("p " + p + " root(p)", x, () -> x.root(p));
      Due.noArgument("p " + p + " inverse(p)", x, () -> x.inverse(p));
      Due.noArgument("p " + p + " point(-1, p, 0)", x, () -> x.point(-1, p, 0));
      Due.is("p " + p + " the greatest place", 0, () -> x.point(-1, p - 1, p - 1));
    }
  }

  // ---- 3: "if a is not 1 to p - 1"

  private static void inverseEdges() {
    for (int p : PRIMES) {
      PrimePlane x = Due.plane(p);
      Due.is("p " + p + " inverse(1)", 1, () -> x.inverse(1));
      Due.is("p " + p + " inverse(p - 1)", p - 1, () -> x.inverse(p - 1));
      for (int a : new int[] {0, -1, p, p + 1, 1 - p, MIN, MAX}) {
        Due.noArgument("p " + p + " inverse(" + a + ")", x, () -> x.inverse(a));
      }
    }
  }

  // ---- 4: "-1 if it is no square", "if a is not 0 to p - 1"

  private static void rootEdges() {
    for (int p : PRIMES) {
      PrimePlane x = Due.plane(p);
      Due.is("p " + p + " root(0)", 0, () -> x.root(0));
      Due.is("p " + p + " root(1)", 1, () -> x.root(1));
      Due.is("p " + p + " root(p - 1)", -1, () -> x.root(p - 1));
      Due.is("p " + p + " root(p - 4)", -1, () -> x.root(p - 4));
      for (int a : new int[] {-1, p, p + 1, -p, MIN, MAX}) {
        Due.noArgument("p " + p + " root(" + a + ")", x, () -> x.root(a));
      }
    }
  }

  // ---- 5: "0 p, 1 objects, 2 claims, 3 free points, 4 objects that are lacking", "if what is not 0 to 4"

  private static void counts(PrimePlane x, int... due) {
    for (int i = 0; i < 5; i++) {
      int what = i;
      Due.is("count(" + i + ")", due[i], () -> x.count(what));
    }
    for (int bad : new int[] {-1, 5, MIN, MAX}) {
      Due.noIndex("count(" + bad + ")", x, () -> x.count(bad));
    }
  }

  private static void countEmptyAndFull() {
    counts(new PrimePlane(), 43, 0, 0, 0, 0);
    PrimePlane x = Due.plane(7);
    for (int i = 0; i < 40; i++) {
      x.point(-1, i % 7, 0);
    }
    for (int i = 0; i < 20; i++) {
      x.claim(6, i, i, 0, 0);
    }
    counts(x, 7, 40, 20, 40, 0);
    PrimePlane y = oneOfEach(7);
    for (int i = 4; i < 40; i++) {
      y.point(2, i % 7, 0);
    }
    // Points on a line are no free ones.
    counts(y, 7, 40, 0, 2, 0);
  }

  private static void countLacking() {
    PrimePlane x = oneOfEach(7);
    for (int i = 4; i < 40; i++) {
      x.point(2, i % 7, 0);
    }
    x.move(1, 0, 0);
    counts(x, 7, 40, 0, 2, 38);
    x.move(1, 0, 1);
    counts(x, 7, 40, 0, 2, 0);
  }

  // ---- 6: "x is not 0 to p - 1, or (for a free point) y is not"

  private static void pointEdges() {
    PrimePlane x = oneOfEach(11);
    Due.is("the least place", 4, () -> x.point(-1, 0, 0));
    Due.at(x, 4, 0, 0, 0);
    Due.is("the greatest place", 5, () -> x.point(-1, 10, 10));
    Due.at(x, 5, 10, 10, 0);
    Due.is("x and y are kept apart", 6, () -> x.point(-1, 0, 10));
    Due.at(x, 6, 0, 10, 0);
    Due.is("the least t", 7, () -> x.point(2, 0, 0));
    Due.at(x, 7, 0, 0, 0);
    Due.is("the greatest t", 8, () -> x.point(2, 10, 0));
    Due.at(x, 8, 10, 0, 0);
    for (int bad : new int[] {-1, 11, 12, -11, MIN, MAX}) {
      Due.noArgument("a free x of " + bad, x, () -> x.point(-1, bad, 0));
      Due.noArgument("a free y of " + bad, x, () -> x.point(-1, 0, bad));
      Due.noArgument("a t of " + bad, x, () -> x.point(2, bad, 0));
    }
  }

  // ---- 6: "its y; it does not matter on a line"

  private static void pointOfAnyY() {
    PrimePlane x = oneOfEach(11);
    int[] ys = {-1, 11, MIN, MAX};
    for (int i = 0; i < 4; i++) {
      int y = ys[i];
      Due.is("y = " + y, 4 + i, () -> x.point(2, 5, y));
      Due.at(x, 4 + i, 5, 0, 0);
    }
  }

  // ---- 7: "the third parent, for 21 and 22; otherwise 0"

  private static void makeWithoutThirdParent() {
    PrimePlane x = oneOfEach(7);
    x.point(-1, 0, 1);
    Due.noState("a third parent of a line", x, () -> x.make(10, 0, 1, 1));
    Due.noState("one that is no object", x, () -> x.make(10, 0, 1, 99));
    Due.noState("-1 for none", x, () -> x.make(10, 0, 1, -1));
    Due.is("0 for none", 5, () -> x.make(10, 0, 1, 0));
    Due.is("none is told", -1, () -> x.object(5, 4));
    Due.is("object 0 as third parent", 6, () -> x.make(22, 1, 4, 0));
    Due.is("it is told", 0, () -> x.object(6, 4));
    Due.is("another one", 7, () -> x.make(21, 0, 1, 4));
    Due.is("it is told too", 4, () -> x.object(7, 4));
  }

  // ---- 8: "Returns the number of objects that are lacking then."

  private static void moveTellsAllLacking() {
    PrimePlane x = oneOfEach(7);
    x.make(10, 0, 0, 0);
    x.point(-1, 5, 5);
    x.make(20, 5, 5, 0);
    // Those that do not follow the moved point count too.
    Due.is("two that stay lacking", 2, () -> x.move(0, 3, 3));
    Due.is("and two that follow", 4, () -> x.move(0, 1, 0));
    Due.is("a point of which nothing is made but that", 4, () -> x.move(5, 6, 6));
    Due.is("two again", 2, () -> x.move(1, 0, 0));
  }

  private static void moveToTheSamePlace() {
    PrimePlane x = oneOfEach(7);
    x.point(2, 3, 0);
    long before = x.digest();
    Due.is("where it is", 0, () -> x.move(1, 1, 0));
    Due.is("where it is on its line", 0, () -> x.move(4, 3, 6));
    Due.isLong("nothing is changed", before, x.digest());
  }

  // ---- 8: "its new x, or t", "its new y; it does not matter on a line"

  private static void moveEdges() {
    PrimePlane x = oneOfEach(7);
    x.point(2, 3, 0);
    x.move(1, 6, 6);
    Due.at(x, 1, 6, 6, 0);
    Due.at(x, 2, 1, 6, 0);
    Due.at(x, 4, 3, 3, 0);
    Due.at(x, 3, 0, 0, 2);
    for (int y : new int[] {-1, 7, MIN, MAX}) {
      Due.is("any y on a line", 0, () -> x.move(4, 6, y));
      Due.at(x, 4, 6, 6, 0);
      Due.is("any y on a line", 0, () -> x.move(4, 0, y));
      Due.at(x, 4, 0, 0, 0);
    }
    // A point on a line that is lacking takes its t, and shows it when the line is back.
    x.move(1, 0, 0);
    Due.is("on a lacking line", 3, () -> x.move(4, 5, MAX));
    Due.lacks(x, 4);
    Due.noArgument("on a lacking line, t = 7", x, () -> x.move(4, 7, 0));
    Due.noArgument("on a lacking line, t = -1", x, () -> x.move(4, -1, 0));
    x.move(1, 0, 1);
    Due.at(x, 4, 0, 5, 0);
  }

  // ---- 9: "2, 3 and 4 its parents, in their order, -1 if it has no such one"

  private static void objectOfEachSort() {
    PrimePlane x = oneOfEach(7);
    x.point(2, 3, 0);
    x.point(-1, 2, 2);
    x.make(2, 2, 2, 0);
    x.make(3, 2, 3, 0);
    x.make(4, 2, 3, 0);
    x.make(5, 3, 3, 0);
    x.make(6, 3, 3, 0);
    x.make(7, 5, 4, 0);
    x.make(8, 5, 2, 0);
    x.make(10, 5, 4, 0);
    x.make(11, 5, 2, 0);
    x.make(12, 5, 2, 0);
    x.make(13, 5, 4, 0);
    x.make(20, 5, 4, 0);
    x.make(21, 5, 4, 0);
    x.make(22, 5, 4, 1);
    int[][] due = {{0, 0, -1, -1, -1, 0}, {0, 0, -1, -1, -1, 0}, {1, 10, 0, 1, -1, 0}, {2, 20, 0, 1, -1, 0},
        {0, 1, 2, -1, -1, 0}, {0, 0, -1, -1, -1, 0}, {0, 2, 2, 2, -1, 1}, {0, 3, 2, 3, -1, 0}, {0, 4, 2, 3, -1, 0},
        {0, 5, 3, 3, -1, 1}, {0, 6, 3, 3, -1, 1}, {0, 7, 5, 4, -1, 0}, {0, 8, 5, 2, -1, 0}, {1, 10, 5, 4, -1, 0},
        {1, 11, 5, 2, -1, 0}, {1, 12, 5, 2, -1, 0}, {1, 13, 5, 4, -1, 0}, {2, 20, 5, 4, -1, 0}, {2, 21, 5, 4, 0, 0},
        {2, 22, 5, 4, 1, 0}};
    for (int i = 0; i < due.length; i++) {
      for (int w = 0; w < 6; w++) {
        int object = i;
        int what = w;
        Due.is("object(" + i + ", " + w + ")", due[i][w], () -> x.object(object, what));
      }
    }
    for (int bad : new int[] {-1, 6, 20, MIN, MAX}) {
      Due.noIndex("object(0, " + bad + ")", x, () -> x.object(0, bad));
      Due.noIndex("object(" + (bad == 6 ? 40 : bad) + ", 0)", x, () -> x.object(bad == 6 ? 40 : bad, 0));
    }
  }

  // ---- 9: "5 whether it is lacking (1 if it is, else 0)"

  private static void objectTellsLackingNow() {
    PrimePlane x = oneOfEach(7);
    for (int i = 0; i < 3; i++) {
      int due = i % 2;
      x.move(1, due == 1 ? 0 : 1, 0);
      Due.is("the points never are", 0, () -> x.object(0, 5) + x.object(1, 5));
      Due.is("the line", due, () -> x.object(2, 5));
      Due.is("the circle", due, () -> x.object(3, 5));
      Due.is("the line's way stays", 10, () -> x.object(2, 1));
      Due.is("the line's sort stays", 1, () -> x.object(2, 0));
      Due.is("the line's parents stay", 1, () -> x.object(2, 3));
    }
  }

  // ---- 10: "0 x, a or u, 1 y, b or v, 2 0 for a point, c or s", "if it is lacking", "index is not 0 to 2"

  private static void numberOfEachSort() {
    PrimePlane x = Due.plane(7, 2, 5, 3, 1);
    x.make(10, 0, 1, 0);
    x.make(20, 0, 1, 0);
    x.point(2, 6, 0);
    x.make(10, 0, 0, 0);
    x.make(20, 0, 0, 0);
    x.point(5, 6, 0);
    Due.at(x, 0, 2, 5, 0);
    // 4x + y = 13 = 6, or x + 2y = 12 = 5.
    Due.at(x, 2, 1, 2, 2);
    Due.at(x, 3, 2, 5, 3);
    Due.at(x, 4, 6, 3, 0);
    for (int i = 5; i < 8; i++) {
      int object = i;
      for (int k = 0; k < 3; k++) {
        int index = k;
        Due.noState("number(" + i + ", " + k + ")", x, () -> x.number(object, index));
      }
      Due.noIndex("number(" + i + ", 3)", x, () -> x.number(object, 3));
      Due.noIndex("number(" + i + ", -1)", x, () -> x.number(object, -1));
    }
    for (int bad : new int[] {-1, 3, 8, MIN, MAX}) {
      Due.noIndex("number(0, " + bad + ")", x, () -> x.number(0, bad));
      Due.noIndex("number(" + (bad == 3 ? 40 : bad) + ", 0)", x, () -> x.number(bad == 3 ? 40 : bad, 0));
    }
  }

  // ---- 11: "Returns how many places belong to it; 0 if it is lacking."

  private static void placesOfEachSort() {
    for (int p : PRIMES) {
      PrimePlane x = oneOfEach(p);
      x.point(2, p - 1, 0);
      int[] due = {1, 1, p, p + 1, 1};
      for (int i = 0; i < 5; i++) {
        int object = i;
        Due.is("p " + p + " places(" + i + ")", due[i], () -> x.places(object));
      }
      x.move(1, 0, 0);
      for (int i = 2; i < 5; i++) {
        int object = i;
        Due.is("p " + p + " lacking: places(" + i + ")", 0, () -> x.places(object));
      }
      for (int bad : new int[] {-1, 5, 40, MIN, MAX}) {
        Due.noIndex("places(" + bad + ")", x, () -> x.places(bad));
      }
    }
  }

  // ---- 12: "if one of them is no point, or lacking"

  private static void squareEdges() {
    PrimePlane x = oneOfEach(7);
    x.point(2, 6, 0);
    Due.is("of a point and itself", 0, () -> x.square(4, 4));
    Due.is("wraps around", 1, () -> x.square(0, 4));
    Due.is("the other way", 1, () -> x.square(4, 0));
    Due.is("of (1, 0) and (6, 0)", 4, () -> x.square(1, 4));
    for (int other : new int[] {2, 3}) {
      Due.noState("square(0, " + other + ")", x, () -> x.square(0, other));
      Due.noState("square(" + other + ", 0)", x, () -> x.square(other, 0));
      Due.noState("square(" + other + ", itself)", x, () -> x.square(other, other));
    }
    x.move(1, 0, 0);
    Due.noState("the second is lacking", x, () -> x.square(0, 4));
    Due.noState("the first is lacking", x, () -> x.square(4, 0));
    Due.noState("lacking and itself", x, () -> x.square(4, 4));
    Due.is("the others are not", 0, () -> x.square(0, 1));
    Due.noIndex("no object behind a lacking one", x, () -> x.square(4, 5));
    Due.noIndex("no object behind a line", x, () -> x.square(2, -1));
  }

  // ---- 13: "Returns its number.", "its third object, for 2, 5 and 7; otherwise 0", "its fourth object, for 5"

  private static void claimNumbers() {
    PrimePlane x = oneOfEach(7);
    x.point(-1, 3, 3);
    Due.is("the first", 0, () -> x.claim(0, 0, 2, 0, 0));
    Due.is("the second", 1, () -> x.claim(2, 0, 1, 4, 0));
    Due.is("the third", 2, () -> x.claim(5, 0, 1, 4, 4));
    Due.noState("a third object of sort 0", x, () -> x.claim(0, 0, 2, 1, 0));
    Due.noState("a fourth object of sort 2", x, () -> x.claim(2, 0, 1, 4, 1));
    Due.noState("-1 for no third one", x, () -> x.claim(6, 0, 1, -1, 0));
    Due.noState("-1 for no fourth one", x, () -> x.claim(7, 2, 2, 2, -1));
    Due.is("the fourth", 3, () -> x.claim(6, 0, 1, 0, 0));
    Due.noState("a line and a circle", x, () -> x.claim(6, 2, 3, 0, 0));
    Due.noState("a point and a line", x, () -> x.claim(6, 0, 2, 0, 0));
    Due.noState("a circle and a point", x, () -> x.claim(6, 3, 0, 0, 0));
    Due.is("the fifth", 4, () -> x.claim(6, 2, 2, 0, 0));
    Due.is("the sixth", 5, () -> x.claim(6, 3, 3, 0, 0));
  }

  private static void claimOfLackingObjects() {
    PrimePlane x = Due.plane(7, 2, 2, 2, 2);
    x.make(10, 0, 1, 0);
    Due.is("a claim of what is lacking", 0, () -> x.claim(0, 0, 2, 0, 0));
    Due.is("is void", -1, () -> x.holds(0));
    x.move(1, 3, 3);
    Due.is("and holds", 1, () -> x.holds(0));
  }

  // ---- 14: "1 if it holds now, 0 if it fails, -1 if it is void"

  private static void holdsAllThree() {
    PrimePlane x = oneOfEach(7);
    x.point(-1, 5, 0);
    x.claim(0, 4, 2, 0, 0);
    Due.is("holds", 1, () -> x.holds(0));
    x.move(1, 1, 1);
    Due.is("fails", 0, () -> x.holds(0));
    x.move(1, 0, 0);
    Due.is("void", -1, () -> x.holds(0));
    x.move(4, 0, 0);
    Due.is("void still", -1, () -> x.holds(0));
    x.move(1, 0, 4);
    Due.is("holds again", 1, () -> x.holds(0));
    for (int bad : new int[] {-1, 1, 20, MIN, MAX}) {
      Due.noIndex("holds(" + bad + ")", x, () -> x.holds(bad));
    }
  }

  // ---- 15: "0 at how many places the claim holds, 1 at how many it fails, 2 the least .., -1 if there is none"

  private static void everywhere(PrimePlane x, int claim, int object, int... due) {
    String name = "everywhere(" + claim + ", " + object + ", ";
    for (int i = 0; i < 3; i++) {
      int what = i;
      Due.is(name + i + ")", due[i], () -> x.everywhere(claim, object, what));
    }
  }

  private static void everywhereAllOrNothing() {
    for (int p : PRIMES) {
      PrimePlane x = oneOfEach(p);
      x.make(10, 0, 0, 0);
      x.claim(6, 0, 0, 0, 0);
      x.claim(6, 0, 1, 0, 0);
      x.claim(0, 0, 4, 0, 0);
      x.point(-1, 3, 3);
      // Whatever does not follow the point stays as it is for all places of it.
      everywhere(x, 0, 5, p * p, 0, -1);
      everywhere(x, 1, 5, 0, p * p, 0);
      everywhere(x, 2, 5, 0, 0, -1);
      everywhere(x, 0, 0, p * p, 0, -1);
      everywhere(x, 1, 1, 1, p * p - 1, 1);
      everywhere(x, 2, 0, 0, 0, -1);
    }
  }

  // ---- 15: "2 the least p * x + y of a place (x, y) at which it fails"

  private static void everywhereLeastPlace() {
    for (int p : PRIMES) {
      PrimePlane x = Due.plane(p, 0, 0, 0, 1, 1, 0, p - 1, p - 1);
      x.make(10, 0, 1, 0);
      x.make(10, 0, 2, 0);
      x.claim(0, 3, 4, 0, 0);
      x.claim(0, 3, 5, 0, 0);
      x.claim(6, 3, 1, 0, 0);
      x.claim(6, 3, 0, 0, 0);
      // On x = 0: the first place off it is (1, 0); on y = 0: (0, 1).
      everywhere(x, 0, 3, p, p * p - p, p);
      everywhere(x, 1, 3, p, p * p - p, 1);
      everywhere(x, 2, 3, 1, p * p - 1, 0);
      everywhere(x, 3, 3, 1, p * p - 1, 1);
    }
  }

  private static void everywhereBehindVoids() {
    PrimePlane x = Due.plane(7, 4, 0, 5, 0, 0, 0, 0, 1, 3, 3, 0, 2, 1, 2);
    x.make(20, 0, 1, 0);
    x.make(10, 2, 3, 0);
    x.make(11, 4, 8, 0);
    x.make(3, 9, 7, 0);
    x.make(10, 5, 6, 0);
    x.claim(0, 10, 11, 0, 0);
    // The circle has no place with x 0 or 1; the lower one of x = 2 is (2, 2), on y = 2, and that of x = 3 (3, 0).
    everywhere(x, 0, 4, 14, 21, 21);
    Due.is("where it is, it fails", 0, () -> x.holds(0));
  }

  // ---- 15: "Looks at a claim for all places of a free point": whichever of its objects follows the point

  private static void everywhereAsIfMoved() {
    for (int i = 0; i < 8; i++) {
      String sorts = Ways.SUBJECTS[i];
      for (int k = 0; k < sorts.length(); k++) {
        int[] g = Ways.chosen(sorts, 2, 7, 8);
        g[1] = g[1] == 2 ? 3 : g[1];
        g[k] = Ways.chosen(sorts, 6, 4, 5)[k];
        PrimePlane x = Ways.fragile(0, 1);
        x.claim(i, g[0], g[1], g[2], g[3]);
        int[] due = {0, 0, -1};
        for (int place = 48; place >= 0; place--) {
          x.move(1, place / 7, place % 7);
          int told = x.holds(0);
          due[0] += told == 1 ? 1 : 0;
          due[1] += told == 0 ? 1 : 0;
          due[2] = told == 0 ? place : due[2];
        }
        everywhere(x, 0, 1, due);
      }
    }
  }

  // ---- 15: "the other free points stay where they are, and it is back at its place in the end"

  private static void everywherePutsBack() {
    PrimePlane x = Due.plane(7, 6, 6, 6, 0, 2, 3);
    x.make(10, 0, 1, 0);
    x.make(20, 0, 1, 0);
    x.point(3, 5, 0);
    x.make(12, 2, 3, 0);
    x.make(8, 2, 3, 0);
    x.claim(0, 2, 3, 0, 0);
    x.claim(1, 5, 4, 0, 0);
    long before = x.digest();
    for (int object = 0; object < 3; object++) {
      for (int claim = 0; claim < 2; claim++) {
        for (int what = 0; what < 3; what++) {
          x.everywhere(claim, object, what);
          Due.isLong("after everywhere(" + claim + ", " + object + ", " + what + ")", before, x.digest());
        }
      }
    }
    Due.at(x, 0, 6, 6, 0);
    Due.at(x, 5, 6, 5, 0);
    // What was lacking is lacking again, and keeps its t.
    x.move(0, 6, 0);
    long gone = x.digest();
    x.everywhere(1, 0, 0);
    Due.isLong("after everywhere of what is lacking", gone, x.digest());
    x.move(0, 6, 6);
    Due.isLong("and all comes back", before, x.digest());
  }

  // ---- 16: "0 how many different places there are, 1 0 if there are at most two, else 1 .., 2 .., 3 otherwise"

  private static void locus(PrimePlane x, int point, int on, int... due) {
    String name = "locus(" + point + ", " + on + ", ";
    long before = x.digest();
    for (int i = 0; i < 4; i++) {
      int what = i;
      Due.is(name + i + ")", due[i], () -> x.locus(point, on, what));
    }
    Due.isLong("digest after it", before, x.digest());
  }

  /** p = 7, a point 3 on y = 0, and the first place that x = t has in common with a circle of the square 1. */
  private static PrimePlane underACircle(int centreX, int centreY) {
    PrimePlane x = Due.plane(7, 0, 0, 1, 0, 0, 1);
    x.make(10, 0, 1, 0);
    x.point(3, 2, 0);
    x.make(12, 4, 3, 0);
    x.point(-1, centreX, centreY);
    x.make(21, 6, 0, 1);
    x.make(3, 5, 7, 0);
    return x;
  }

  private static void locusOfNoneToThree() {
    PrimePlane x = underACircle(0, 0);
    x.make(10, 0, 0, 0);
    x.point(9, 0, 0);
    x.make(7, 4, 10, 0);
    // None: it is lacking for all seven t. One: it does not follow, or does not move.
    locus(x, 11, 4, 0, 0, 7, 0);
    locus(x, 2, 4, 1, 0, 0, 1);
    x.make(2, 5, 3, 0);
    x.make(7, 12, 12, 0);
    locus(x, 13, 4, 7, 1, 0, 7 * 21);
    // Five on a circle: (0, 1), (1, 0), (2, 2), (5, 2), (6, 0).
    locus(x, 8, 4, 5, 2, 2, 1 + 7 + 16 + 37 + 42);
    x.make(20, 4, 1, 0);
    x.make(3, 3, 14, 0);
    x.make(4, 3, 14, 0);
    // 1 or 2t - 1, whichever is less: 0 for t = 4, none for t = 1. Exactly two places.
    locus(x, 15, 4, 2, 0, 1, 7);
    x.make(20, 0, 4, 0);
    x.make(3, 3, 17, 0);
    // The lesser of t and -t: exactly three places, in line.
    locus(x, 18, 4, 3, 1, 1, 7 + 14 + 21);
  }

  /** p = 7: 0 (0, 0), 1 (1, 0), 2 (0, 1), 3 y = 0, 4 a point on it. */
  private static PrimePlane triangle() {
    PrimePlane x = Due.plane(7, 0, 0, 1, 0, 0, 1);
    x.make(10, 0, 1, 0);
    x.point(3, 5, 0);
    return x;
  }

  private static void locusOfThreeNotInLine() {
    PrimePlane x = triangle();
    x.make(20, 4, 2, 0);
    x.make(13, 4, 1, 0);
    x.make(4, 6, 5, 0);
    // (2, 4) for t = 3, (3, 6) for 5, (0, 6) for 6: a circle goes through any three.
    locus(x, 7, 4, 3, 2, 4, 18 + 27 + 6);
  }

  private static void locusOfThreeInLineAndOneMore() {
    PrimePlane x = triangle();
    x.make(22, 2, 4, 1);
    x.make(20, 4, 1, 0);
    x.make(5, 5, 6, 0);
    // (0, 1), (0, 2), (0, 3) and (1, 0).
    locus(x, 7, 4, 4, 3, 1, 1 + 2 + 3 + 7);
  }

  private static void locusOfFour() {
    PrimePlane x = triangle();
    x.make(21, 1, 4, 1);
    x.make(13, 0, 4, 0);
    x.make(4, 6, 5, 0);
    // (1, 6) for t = 2, (5, 4) for 3, (2, 6) for 4, (3, 0) for 6: no three in line, and not on a circle.
    locus(x, 7, 4, 4, 3, 3, 13 + 39 + 20 + 21);
    PrimePlane y = triangle();
    y.make(13, 4, 2, 0);
    y.make(20, 0, 1, 0);
    y.make(4, 5, 6, 0);
    // (5, 5), (6, 0) twice, (5, 2) twice, (2, 5): all on the circle around (0, 0) with the square 1.
    locus(y, 7, 4, 4, 2, 1, 40 + 42 + 37 + 19);
  }

  // ---- 16: "a point on a line takes all numbers t from 0 to p - 1"

  private static void locusOfItself() {
    for (int p : PRIMES) {
      PrimePlane x = Due.plane(p, 0, 0, 1, 0, 0, 1, p - 1, p - 1);
      x.make(10, 0, 1, 0);
      x.make(10, 0, 2, 0);
      x.make(10, 0, 3, 0);
      x.point(4, p - 1, 0);
      x.point(5, 0, 0);
      x.point(6, 1, 0);
      int sum = p * (p - 1) / 2;
      locus(x, 7, 7, p, 1, 0, p * sum);
      locus(x, 8, 8, p, 1, 0, sum);
      locus(x, 9, 9, p, 1, 0, (p + 1) * sum);
      // Away from (0, 0): y = p - 1.
      x.make(11, 3, 4, 0);
      x.point(10, 2, 0);
      locus(x, 11, 11, p, 1, 0, p * sum + p * (p - 1));
      locus(x, 8, 7, 1, 0, 0, 0);
      x.move(1, 0, 0);
      locus(x, 7, 7, 0, 0, p, 0);
      locus(x, 8, 7, 1, 0, 0, 0);
    }
  }

  // ---- 16: "Looks where a point goes to": whichever of its parents, or of theirs, follows the point on the line

  private static void locusAsIfMoved() {
    for (int i = 0; i < Ways.WAYS.length; i++) {
      for (int k = 0; k < Ways.PARENTS[i].length(); k++) {
        PrimePlane x = Ways.fragile(0, 1);
        x.make(10, 6, 2, 0);
        x.make(20, 6, 3, 0);
        int[] g = Ways.parents(i, k, 6, 9, 10);
        int made = x.make(Ways.WAYS[i], g[0], g[1], g[2]);
        int sort = x.object(made, 0);
        int watched = sort == 0 ? made : sort == 1 ? x.make(8, 2, made, 0) : x.make(4, 7, made, 0);
        asIfMoved(x, watched);
      }
    }
  }

  private static void asIfMoved(PrimePlane x, int watched) {
    boolean[] seen = new boolean[49];
    int[] due = new int[4];
    for (int t = 0; t < 7; t++) {
      x.move(6, t, 0);
      int place = x.object(watched, 5) == 1 ? -1 : 7 * x.number(watched, 0) + x.number(watched, 1);
      due[2] += place < 0 ? 1 : 0;
      if (place >= 0 && !seen[place]) {
        seen[place] = true;
        due[0]++;
        due[3] += place;
      }
    }
    String name = "of object " + watched + ", made in the way " + x.object(11, 1) + ": locus ";
    Due.is(name + 0, due[0], () -> x.locus(watched, 6, 0));
    Due.is(name + 2, due[2], () -> x.locus(watched, 6, 2));
    Due.is(name + 3, due[3], () -> x.locus(watched, 6, 3));
  }

  // ---- 16: "it is back where it was in the end"

  private static void locusPutsBack() {
    PrimePlane x = underACircle(0, 0);
    for (int t = 0; t < 7; t++) {
      x.move(4, t, 0);
      long before = x.digest();
      x.locus(8, 4, t % 4);
      Due.isLong("t = " + t, before, x.digest());
    }
    // Its t is kept, even if its line is lacking meanwhile.
    x.move(1, 0, 0);
    x.locus(8, 4, 0);
    x.move(1, 1, 0);
    Due.at(x, 4, 6, 0, 0);
    Due.at(x, 8, 6, 0, 0);
  }

  // ---- 17: "of those that are not void; 1 if all are"

  private static void truthOfNone() {
    Due.is("no claims", 1, () -> new PrimePlane().truth());
    PrimePlane x = oneOfEach(7);
    x.claim(0, 0, 2, 0, 0);
    x.claim(1, 0, 3, 0, 0);
    Due.is("one holds, one fails", 0.5, () -> x.truth());
    x.move(1, 0, 0);
    Due.is("all are void", 1, () -> x.truth());
    x.claim(6, 0, 1, 0, 0);
    Due.is("void ones and one that holds", 1, () -> x.truth());
    x.claim(5, 0, 1, 0, 0);
    x.claim(2, 0, 1, 0, 0);
    Due.is("three that hold", 1, () -> x.truth());
    x.move(1, 2, 0);
    Due.is("five, one on a line, two in line", 2.0 / 5, () -> x.truth());
  }

  // ---- 17: "Returns the part of the claims that hold now"

  private static void truthOfParts() {
    PrimePlane x = oneOfEach(7);
    for (int i = 0; i < 20; i++) {
      x.claim(6, 0, i < 13 ? 1 : 0, 0, 0);
      double due = i < 13 ? 0 : (i - 12) / (i + 1.0);
      Due.is("truth of " + (i + 1), due, () -> x.truth());
    }
    x.move(1, 0, 0);
    Due.is("truth of 20 that hold", 1, () -> x.truth());
  }

  // ---- 18: "A number d starts with 421; for each of the following numbers x, d becomes d * 31 + x"

  private static void digestOfNothing() {
    Due.isLong("421, then 43, 0, 0, 0, 0", (421L * 31 + 43) * 31 * 31 * 31 * 31, new PrimePlane().digest());
    Due.isLong("421, then 7, 0, 0, 0, 0", (421L * 31 + 7) * 31 * 31 * 31 * 31, Due.plane(7).digest());
  }

  // ---- 18: "which wraps around as a 64-bit integer"

  private static BigInteger add(BigInteger d, int x) {
    return d.multiply(BigInteger.valueOf(31)).add(BigInteger.valueOf(x));
  }

  /** The sum without an end, of what the other calls tell. */
  private static BigInteger endless(PrimePlane x) {
    BigInteger d = BigInteger.valueOf(421);
    for (int what = 0; what < 5; what++) {
      d = add(d, x.count(what));
    }
    for (int i = 0; i < x.count(1); i++) {
      for (int what = 0; what < 6; what++) {
        d = add(d, x.object(i, what));
      }
      for (int k = 0; k < 3 && x.object(i, 5) == 0; k++) {
        d = add(d, x.number(i, k));
      }
    }
    for (int i = 0; i < x.count(2); i++) {
      d = add(d, x.holds(i));
    }
    return d;
  }

  private static void digestWrapsAround() {
    PrimePlane x = full();
    BigInteger d = endless(x);
    Due.is("it is far beyond 64 bits", 1, () -> d.bitLength() > 1000 ? 1 : 0);
    Due.isLong("the digest of a full plane", d.longValue(), x.digest());
    PrimePlane y = oneOfEach(43);
    y.claim(0, 0, 2, 0, 0);
    y.claim(1, 0, 3, 0, 0);
    Due.isLong("a digest", endless(y).longValue(), y.digest());
    Due.isLong("the same again", endless(y).longValue(), y.digest());
  }

  // ---- 18: "and, unless it is lacking, its three numbers"

  private static void digestLeavesOutNumbers() {
    PrimePlane x = oneOfEach(7);
    x.claim(0, 0, 2, 0, 0);
    x.move(0, 2, 3);
    x.move(1, 2, 3);
    long d = 421;
    int[] due = {7, 4, 1, 2, 2, 0, 0, -1, -1, -1, 0, 2, 3, 0, 0, 0, -1, -1, -1, 0, 2, 3, 0,
        1, 10, 0, 1, -1, 1, 2, 20, 0, 1, -1, 1, -1};
    for (int n : due) {
      d = d * 31 + n;
    }
    Due.isLong("two points, and two that are lacking", d, x.digest());
  }
}
