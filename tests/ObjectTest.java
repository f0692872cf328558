/** Promises 6 to 12: point, make, move, object, number, places, square. */
final class ObjectTest {
  private static final int[] WILD = {-2, Integer.MIN_VALUE, Integer.MAX_VALUE};

  public static void main(String[] args) {
    point();
    pointOrder();
    pointsMade();
    commonPlaces();
    commonPlacesOfCircles();
    linesMade();
    circlesMade();
    makeOrder();
    move();
    moveOrder();
    object();
    number();
    places();
    square();
    fortyObjects();
    Due.end();
  }

  /** p = 7 with the points 0 (0, 0), 1 (1, 0), 2 (0, 1), 3 (3, 5). */
  private static PrimePlane four() {
    return Due.plane(7, 0, 0, 1, 0, 0, 1, 3, 5);
  }

  private static void point() {
    PrimePlane x = four();
    Due.at(x, 3, 3, 5, 0);
    x.make(10, 0, 1, 0);
    x.make(10, 0, 2, 0);
    x.make(10, 1, 2, 0);
    Due.is("point on y = 0", 7, () -> x.point(4, 4, -99));
    Due.at(x, 7, 4, 0, 0);
    Due.is("point on x = 0", 8, () -> x.point(5, 4, Integer.MAX_VALUE));
    Due.at(x, 8, 0, 4, 0);
    Due.is("point on x + y = 1", 9, () -> x.point(6, 4, Integer.MIN_VALUE));
    Due.at(x, 9, 4, 4, 0);
    x.make(10, 0, 0, 0);
    Due.is("point on a line that is lacking", 11, () -> x.point(10, 6, 0));
    Due.lacks(x, 11);
    Due.is("a free point at the edge", 12, () -> x.point(-1, 6, 6));
    Due.at(x, 12, 6, 6, 0);
  }

  private static void pointOrder() {
    PrimePlane x = four();
    x.make(10, 0, 1, 0);
    x.make(20, 0, 1, 0);
    Due.noIndex("point(6, 0, 0)", x, () -> x.point(6, 0, 0));
    Due.noIndex("point(6, 7, 0): the line comes first", x, () -> x.point(6, 7, 0));
    for (int line : WILD) {
      Due.noIndex("point(" + line + ", 0, 0)", x, () -> x.point(line, 0, 0));
    }
    Due.noArgument("point(0, 0, 0): a point", x, () -> x.point(0, 0, 0));
    Due.noArgument("point(5, 0, 0): a circle", x, () -> x.point(5, 0, 0));
    Due.noArgument("point(4, 7, 0)", x, () -> x.point(4, 7, 0));
    Due.noArgument("point(4, -1, 0)", x, () -> x.point(4, -1, 0));
    Due.noArgument("point(-1, 7, 0)", x, () -> x.point(-1, 7, 0));
    Due.noArgument("point(-1, -1, 0)", x, () -> x.point(-1, -1, 0));
    Due.noArgument("point(-1, 0, 7)", x, () -> x.point(-1, 0, 7));
    Due.noArgument("point(-1, 0, -1)", x, () -> x.point(-1, 0, -1));
  }

  private static void pointsMade() {
    PrimePlane x = four();
    x.make(10, 0, 3, 0);
    x.make(10, 1, 2, 0);
    Due.at(x, 4, 1, 5, 0);
    Due.at(x, 5, 1, 1, 6);
    Due.is("the intersection of x + 5y = 0 and x + y = 1", 6, () -> x.make(2, 4, 5, 0));
    Due.at(x, 6, 3, 5, 0);
    x.make(11, 0, 5, 0);
    Due.is("of parallel lines", 8, () -> x.make(2, 5, 7, 0));
    Due.lacks(x, 8);
    Due.is("of one line", 9, () -> x.make(2, 5, 5, 0));
    Due.lacks(x, 9);
    Due.is("the middle of (1, 0) and (3, 5)", 10, () -> x.make(7, 1, 3, 0));
    Due.at(x, 10, 2, 6, 0);
    Due.is("the middle of a point and itself", 11, () -> x.make(7, 3, 3, 0));
    Due.at(x, 11, 3, 5, 0);
    Due.is("the mirror of (0, 0) at x + y = 1", 12, () -> x.make(8, 0, 5, 0));
    Due.at(x, 12, 1, 1, 0);
    Due.is("the mirror of a point on the line", 13, () -> x.make(8, 3, 5, 0));
    Due.at(x, 13, 3, 5, 0);
    Due.is("the mirror of (1, 0) at x + 5y = 0", 14, () -> x.make(8, 1, 4, 0));
    // 1 + 25 = 5 by the remainder of 7, 1 / 5 = 3, and (1, 0) - 2 * 3 * (1, 5) = (2, 5).
    Due.at(x, 14, 2, 5, 0);
  }

  /** The circle around (0, 0) with the square 1: (0, 1), (0, 6), (1, 0), (2, 2), (2, 5), .. */
  private static void commonPlaces() {
    PrimePlane x = four();
    x.make(20, 0, 1, 0);
    Due.at(x, 4, 0, 0, 1);
    x.make(10, 0, 2, 0);
    x.make(3, 5, 4, 0);
    x.make(4, 5, 4, 0);
    Due.at(x, 6, 0, 1, 0);
    Due.at(x, 7, 0, 6, 0);
    x.make(10, 0, 1, 0);
    x.make(3, 8, 4, 0);
    x.make(4, 8, 4, 0);
    Due.at(x, 9, 1, 0, 0);
    Due.at(x, 10, 6, 0, 0);
    x.make(12, 1, 8, 0);
    x.make(3, 11, 4, 0);
    x.make(4, 11, 4, 0);
    Due.at(x, 12, 1, 0, 0);
    Due.at(x, 13, 1, 0, 0);
    x.make(11, 3, 5, 0);
    x.make(3, 14, 4, 0);
    x.make(4, 14, 4, 0);
    Due.lacks(x, 15);
    Due.lacks(x, 16);
    x.move(3, 2, 0);
    Due.at(x, 15, 2, 2, 0);
    Due.at(x, 16, 2, 5, 0);
  }

  private static void commonPlacesOfCircles() {
    PrimePlane x = four();
    x.make(20, 0, 1, 0);
    x.make(20, 1, 0, 0);
    x.make(5, 4, 5, 0);
    x.make(6, 4, 5, 0);
    // x = 1 / 2 = 4, and y * y = 1 - 16 = 6, no square.
    Due.lacks(x, 6);
    Due.lacks(x, 7);
    x.point(-1, 4, 0);
    x.make(20, 8, 0, 0);
    x.make(5, 4, 9, 0);
    x.make(6, 4, 9, 0);
    // Around (4, 0) with the square 2: 8x = 1, so x = 1, and y = 0 alone.
    Due.at(x, 10, 1, 0, 0);
    Due.at(x, 11, 1, 0, 0);
    x.make(20, 2, 0, 0);
    x.make(21, 3, 0, 1);
    x.make(5, 12, 13, 0);
    x.make(6, 12, 13, 0);
    x.make(5, 4, 4, 0);
    Due.lacks(x, 16);
    x.make(21, 0, 0, 8);
    x.make(5, 4, 17, 0);
    Due.lacks(x, 18);
    x.move(0, 5, 5);
    x.make(6, 4, 17, 0);
    Due.lacks(x, 19);
  }

  private static void linesMade() {
    PrimePlane x = four();
    Due.is("through (0, 0) and (1, 0)", 4, () -> x.make(10, 0, 1, 0));
    Due.at(x, 4, 0, 1, 0);
    Due.is("through (0, 0) and (0, 1)", 5, () -> x.make(10, 0, 2, 0));
    Due.at(x, 5, 1, 0, 0);
    Due.is("through (3, 5) and (1, 0)", 6, () -> x.make(10, 3, 1, 0));
    // a = 5, b = -2 = 5, c = -5: divided by 5 it is x + y + 6.
    Due.at(x, 6, 1, 1, 6);
    Due.is("through one place", 7, () -> x.make(10, 3, 3, 0));
    Due.lacks(x, 7);
    Due.is("through (3, 5), parallel to y = 0", 8, () -> x.make(11, 3, 4, 0));
    Due.at(x, 8, 0, 1, 2);
    Due.is("parallel to a line through its own point", 9, () -> x.make(11, 1, 6, 0));
    Due.at(x, 9, 1, 1, 6);
    Due.is("through (3, 5), perpendicular to y = 0", 10, () -> x.make(12, 3, 4, 0));
    Due.at(x, 10, 1, 0, 4);
    Due.is("through (3, 5), perpendicular to x + y = 1", 11, () -> x.make(12, 3, 6, 0));
    Due.at(x, 11, 1, 6, 2);
    Due.is("through (3, 5), perpendicular to x = 0", 12, () -> x.make(12, 3, 5, 0));
    Due.at(x, 12, 0, 1, 2);
    Due.is("between (0, 0) and (1, 0)", 13, () -> x.make(13, 0, 1, 0));
    Due.at(x, 13, 1, 0, 3);
    Due.is("between (1, 0) and (0, 1)", 14, () -> x.make(13, 1, 2, 0));
    Due.at(x, 14, 1, 6, 0);
    Due.is("between a point and itself", 15, () -> x.make(13, 1, 1, 0));
    Due.lacks(x, 15);
    Due.is("parallel to a line that is lacking", 16, () -> x.make(11, 1, 15, 0));
    Due.lacks(x, 16);
  }

  private static void circlesMade() {
    PrimePlane x = four();
    Due.is("around (1, 0) through (3, 5)", 4, () -> x.make(20, 1, 3, 0));
    Due.at(x, 4, 1, 0, 1);
    Due.is("around a point through itself", 5, () -> x.make(20, 1, 1, 0));
    Due.lacks(x, 5);
    Due.is("around (3, 5) with the square of (1, 0) and (0, 1)", 6, () -> x.make(21, 3, 1, 2));
    Due.at(x, 6, 3, 5, 2);
    Due.is("around a point with itself and another", 7, () -> x.make(21, 1, 1, 3));
    Due.at(x, 7, 1, 0, 1);
    Due.is("with the square 0", 8, () -> x.make(21, 3, 1, 1));
    Due.lacks(x, 8);
    Due.is("through (0, 0), (1, 0), (0, 1)", 9, () -> x.make(22, 0, 1, 2));
    Due.at(x, 9, 4, 4, 4);
    Due.is("through three of x + y = 1", 10, () -> x.make(22, 1, 2, 3));
    Due.lacks(x, 10);
    Due.is("through two places", 11, () -> x.make(22, 1, 2, 1));
    Due.lacks(x, 11);
    Due.is("through one place", 12, () -> x.make(22, 1, 1, 1));
    Due.lacks(x, 12);
  }

  /** p = 7 with the points 0 and 1, the line 2 and the circle 3. */
  private static PrimePlane oneOfEach() {
    PrimePlane x = new PrimePlane();
    x.begin(7);
    x.point(-1, 0, 0);
    x.point(-1, 1, 0);
    x.make(10, 0, 1, 0);
    x.make(20, 0, 1, 0);
    return x;
  }

  private static void makeOrder() {
    PrimePlane z = oneOfEach();
    int[] noWays = {-1, 0, 1, 9, 14, 15, 19, 23, 1431655765, 1431655766, 1431655767, 715827883,
        Integer.MIN_VALUE, Integer.MAX_VALUE};
    for (int way : noWays) {
      Due.noArgument("make(" + way + ", 9, 9, 9)", z, () -> z.make(way, 9, 9, 9));
    }
    int[] ways = {2, 3, 4, 5, 6, 7, 8, 10, 11, 12, 13, 20, 21, 22};
    // The sorts of the parents; 9 for none.
    int[][] needs = {{1, 1, 9}, {1, 2, 9}, {1, 2, 9}, {2, 2, 9}, {2, 2, 9}, {0, 0, 9}, {0, 1, 9},
        {0, 0, 9}, {0, 1, 9}, {0, 1, 9}, {0, 0, 9}, {0, 0, 9}, {0, 0, 0}, {0, 0, 0}};
    int[] ofSort = {1, 2, 3};
    for (int i = 0; i < ways.length; i++) {
      PrimePlane x = oneOfEach();
      int way = ways[i];
      int[] need = needs[i];
      int a = ofSort[need[0]];
      int b = ofSort[need[1]];
      boolean three = need[2] != 9;
      int c = three ? ofSort[need[2]] : 0;
      String name = "make(" + way + ")";
      for (int bad : new int[] {-1, 4, Integer.MIN_VALUE, Integer.MAX_VALUE}) {
        Due.noIndex(name + " no a", x, () -> x.make(way, bad, b, c));
        Due.noIndex(name + " no b", x, () -> x.make(way, a, bad, c));
        if (three) {
          Due.noIndex(name + " no c", x, () -> x.make(way, a, b, bad));
        } else {
          Due.noState(name + " a c", x, () -> x.make(way, a, b, bad));
        }
      }
      for (int sort = 0; sort < 3; sort++) {
        int other = ofSort[sort];
        if (sort != need[0]) {
          Due.noState(name + " other a", x, () -> x.make(way, other, b, c));
          Due.noIndex(name + " other a and no b", x, () -> x.make(way, other, 4, c));
        }
        if (sort != need[1]) {
          Due.noState(name + " other b", x, () -> x.make(way, a, other, c));
        }
        if (three && sort != need[2]) {
          Due.noState(name + " other c", x, () -> x.make(way, a, b, other));
        }
      }
      PrimePlane y = oneOfEach();
      Due.is(name, 4, () -> y.make(way, a, b, c));
      Due.is(name + " has this way", way, () -> y.object(4, 1));
      Due.is(name + " has this sort", way < 10 ? 0 : way < 20 ? 1 : 2, () -> y.object(4, 0));
      Due.is(name + " first parent", a, () -> y.object(4, 2));
      Due.is(name + " second parent", b, () -> y.object(4, 3));
      Due.is(name + " third parent", three ? c : -1, () -> y.object(4, 4));
    }
  }

  private static void move() {
    PrimePlane x = four();
    x.make(10, 0, 1, 0);
    x.point(4, 5, 0);
    x.make(10, 5, 2, 0);
    x.make(11, 3, 6, 0);
    Due.is("all are there", 0, () -> x.move(3, 6, 6));
    Due.at(x, 3, 6, 6, 0);
    Due.is("the line is gone, and three with it", 4, () -> x.move(1, 0, 0));
    Due.lacks(x, 4);
    Due.lacks(x, 5);
    Due.lacks(x, 6);
    Due.lacks(x, 7);
    Due.is("a point on a lacking line is moved", 4, () -> x.move(5, 3, 99));
    Due.is("the line comes back as x = 0", 0, () -> x.move(1, 0, 6));
    Due.at(x, 4, 1, 0, 0);
    Due.at(x, 5, 0, 3, 0);
    Due.at(x, 6, 1, 0, 0);
    Due.at(x, 7, 1, 0, 1);
    Due.is("along the line to the other point", 2, () -> x.move(5, 1, -1));
    Due.at(x, 5, 0, 1, 0);
    Due.is("and away", 0, () -> x.move(5, 6, -1));
    Due.is("all follow", 0, () -> x.move(1, 1, 1));
    Due.at(x, 4, 1, 6, 0);
    Due.at(x, 5, 6, 6, 0);
  }

  private static void moveOrder() {
    PrimePlane x = oneOfEach();
    x.point(2, 3, 0);
    int[] bad = {-1, 5, Integer.MIN_VALUE, Integer.MAX_VALUE};
    for (int object : bad) {
      Due.noIndex("move(" + object + ", 7, 7)", x, () -> x.move(object, 7, 7));
    }
    int[] out = {-1, 7, Integer.MIN_VALUE, Integer.MAX_VALUE};
    for (int n : out) {
      for (int object = 0; object < 5; object++) {
        int moved = object;
        Due.noArgument("move(" + object + ", " + n + ", 0)", x, () -> x.move(moved, n, 0));
      }
      Due.noArgument("move(0, 0, " + n + ")", x, () -> x.move(0, 0, n));
      Due.noState("move(2, 0, " + n + ")", x, () -> x.move(2, 0, n));
      Due.noState("move(3, 0, " + n + ")", x, () -> x.move(3, 0, n));
      Due.is("move(4, 0, " + n + ")", 0, () -> x.move(4, 0, n));
    }
    x.make(7, 0, 1, 0);
    Due.noState("the middle cannot be moved", x, () -> x.move(5, 0, 0));
  }

  private static void object() {
    PrimePlane x = oneOfEach();
    x.point(2, 3, 5);
    x.make(22, 0, 1, 4);
    int[][] due = {{0, 0, -1, -1, -1, 0}, {0, 0, -1, -1, -1, 0}, {1, 10, 0, 1, -1, 0},
        {2, 20, 0, 1, -1, 0}, {0, 1, 2, -1, -1, 0}, {2, 22, 0, 1, 4, 1}};
    for (int i = 0; i < due.length; i++) {
      for (int what = 0; what < 6; what++) {
        int n = i;
        int w = what;
        Due.is("object(" + n + ", " + w + ")", due[n][w], () -> x.object(n, w));
      }
    }
    for (int bad : new int[] {-1, 6, Integer.MIN_VALUE, Integer.MAX_VALUE}) {
      Due.noIndex("object(" + bad + ", 0)", x, () -> x.object(bad, 0));
      Due.noIndex("object(0, " + bad + ")", x, () -> x.object(0, bad));
      Due.noIndex("number(" + bad + ", 0)", x, () -> x.number(bad, 0));
      Due.noIndex("places(" + bad + ")", x, () -> x.places(bad));
    }
  }

  private static void number() {
    PrimePlane x = oneOfEach();
    x.make(10, 0, 0, 0);
    Due.at(x, 1, 1, 0, 0);
    Due.at(x, 2, 0, 1, 0);
    Due.at(x, 3, 0, 0, 1);
    for (int bad : new int[] {-1, 3, Integer.MIN_VALUE, Integer.MAX_VALUE}) {
      Due.noIndex("number(0, " + bad + ")", x, () -> x.number(0, bad));
      Due.noIndex("number(4, " + bad + ") of a lacking one", x, () -> x.number(4, bad));
    }
    Due.noState("number(4, 0)", x, () -> x.number(4, 0));
    Due.noState("number(4, 2)", x, () -> x.number(4, 2));
  }

  private static void places() {
    for (int p : new int[] {7, 11, 19, 23, 31, 43}) {
      PrimePlane x = new PrimePlane();
      x.begin(p);
      x.point(-1, 0, 0);
      x.point(-1, 2, 3);
      x.make(10, 0, 1, 0);
      x.make(20, 0, 1, 0);
      x.make(20, 0, 0, 0);
      x.make(10, 0, 0, 0);
      x.make(2, 2, 2, 0);
      Due.is("places of a point", 1, () -> x.places(0));
      Due.is("places of a line", p, () -> x.places(2));
      int n = 0;
      for (int i = 0; i < p * p; i++) {
        n += ((i / p) * (i / p) + (i % p) * (i % p) - 13) % p == 0 ? 1 : 0;
      }
      Due.is("places of a circle, p " + p, n, () -> x.places(3));
      Due.is("of a lacking circle", 0, () -> x.places(4));
      Due.is("of a lacking line", 0, () -> x.places(5));
      Due.is("of a lacking point", 0, () -> x.places(6));
    }
  }

  private static void square() {
    PrimePlane x = four();
    x.make(10, 0, 1, 0);
    x.make(2, 4, 4, 0);
    x.make(20, 0, 1, 0);
    Due.is("square of (1, 0) and (3, 5)", 1, () -> x.square(1, 3));
    Due.is("square of (3, 5) and (0, 0)", 6, () -> x.square(3, 0));
    Due.is("square of a point and itself", 0, () -> x.square(3, 3));
    for (int bad : new int[] {-1, 7, Integer.MIN_VALUE, Integer.MAX_VALUE}) {
      Due.noIndex("square(" + bad + ", 0)", x, () -> x.square(bad, 0));
      Due.noIndex("square(4, " + bad + ")", x, () -> x.square(4, bad));
    }
    for (int bad = 4; bad < 7; bad++) {
      int other = bad;
      Due.noState("square(" + bad + ", 0)", x, () -> x.square(other, 0));
      Due.noState("square(0, " + bad + ")", x, () -> x.square(0, other));
    }
  }

  private static void fortyObjects() {
    PrimePlane x = oneOfEach();
    for (int i = 4; i < 40; i++) {
      int n = i;
      Due.is("object " + n, n, () -> n % 2 == 0 ? x.point(-1, 1, 1) : x.make(7, 0, 1, 0));
    }
    Due.noState("one more free point", x, () -> x.point(-1, 1, 1));
    Due.noState("one more point on a line", x, () -> x.point(2, 1, 1));
    Due.noState("one more made", x, () -> x.make(7, 0, 1, 0));
    Due.noIndex("point(40, ..)", x, () -> x.point(40, 1, 1));
    Due.noArgument("point(-1, 7, 7)", x, () -> x.point(-1, 7, 7));
    Due.noArgument("point(3, 0, 0)", x, () -> x.point(3, 0, 0));
    Due.noArgument("make(9, ..)", x, () -> x.make(9, 0, 1, 0));
    Due.noIndex("make(7, 0, 40, 0)", x, () -> x.make(7, 0, 40, 0));
    Due.is("40 objects", 40, () -> x.count(1));
    Due.at(x, 39, 4, 0, 0);
    x.begin(7);
    Due.is("room again", 0, () -> x.point(-1, 1, 1));
  }
}
