/** Promises 16 to 18: locus, truth, digest. */
final class LocusTest {
  public static void main(String[] args) {
    locusOnLine();
    locusOnCircle();
    locusOtherwise();
    locusOfFewPlaces();
    locusWithGaps();
    locusWithThreeInLine();
    locusLacking();
    locusOrder();
    truth();
    digest();
    Due.end();
  }

  private static void locus(PrimePlane x, int point, int on, int different, int shape, int lacking, int sum) {
    String name = "locus(" + point + ", " + on + ", ";
    long before = x.digest();
    Due.is(name + "0)", different, () -> x.locus(point, on, 0));
    Due.is(name + "1)", shape, () -> x.locus(point, on, 1));
    Due.is(name + "2)", lacking, () -> x.locus(point, on, 2));
    Due.is(name + "3)", sum, () -> x.locus(point, on, 3));
    Due.isLong("digest after it", before, x.digest());
  }

  /** p = 7: 0 (0, 0), 1 (1, 0), 2 (0, 1), 3 the line y = 0, 4 a point on it. */
  private static PrimePlane plane() {
    PrimePlane x = new PrimePlane();
    x.begin(7);
    x.point(-1, 0, 0);
    x.point(-1, 1, 0);
    x.point(-1, 0, 1);
    x.make(10, 0, 1, 0);
    x.point(3, 5, 0);
    return x;
  }

  private static void locusOnLine() {
    PrimePlane x = plane();
    locus(x, 4, 4, 7, 1, 0, 7 * 21);
    x.make(7, 4, 2, 0);
    // All places (t / 2, 1 / 2).
    locus(x, 5, 4, 7, 1, 0, 7 * 21 + 7 * 4);
    x.make(10, 0, 2, 0);
    x.point(6, 3, 0);
    locus(x, 7, 7, 7, 1, 0, 21);
    Due.is("the point is back", 3, () -> x.number(7, 1));
    Due.is("the other is back", 5, () -> x.number(4, 0));
  }

  private static void locusOnCircle() {
    PrimePlane x = plane();
    x.point(-1, 6, 0);
    x.make(12, 1, 3, 0);
    x.point(6, 2, 0);
    x.make(10, 5, 7, 0);
    x.make(12, 1, 8, 0);
    x.make(2, 8, 9, 0);
    // The foot from (1, 0) on lines through (6, 0): on the circle between both, but for (6, 0).
    Due.is("different", 7, () -> x.locus(10, 7, 0));
    Due.is("on a circle", 2, () -> x.locus(10, 7, 1));
    Due.is("never lacking", 0, () -> x.locus(10, 7, 2));
    int sum = 0;
    for (int i = 0; i < 49; i++) {
      sum += ((i / 7) * (i / 7) + (i % 7) * (i % 7) - 1) % 7 == 0 && i != 42 ? i : 0;
    }
    int due = sum;
    Due.is("sum", due, () -> x.locus(10, 7, 3));
  }

  private static void locusOtherwise() {
    PrimePlane x = plane();
    x.point(-1, 3, 2);
    x.make(13, 4, 2, 0);
    x.make(12, 4, 3, 0);
    x.make(2, 6, 7, 0);
    // All places with the same square from (0, 1) and from y = 0: 2y = x * x + 1.
    int sum = 0;
    for (int t = 0; t < 7; t++) {
      sum += 7 * t + (t * t + 1) * 4 % 7;
    }
    locus(x, 8, 4, 7, 3, 0, sum);
    // (0, 1) is mirrored at x = t.
    x.make(8, 2, 7, 0);
    locus(x, 9, 4, 7, 1, 0, 7 * 21 + 7);
  }

  private static void locusOfFewPlaces() {
    PrimePlane x = plane();
    // A point that does not follow is at one place.
    locus(x, 2, 4, 1, 0, 0, 1);
    x.make(20, 4, 1, 0);
    x.make(3, 3, 5, 0);
    x.make(4, 3, 5, 0);
    // The circle around (t, 0) through (1, 0) meets y = 0 at 1 and at 2t - 1; it is lacking for t = 1.
    locus(x, 6, 4, 2, 0, 1, 7);
    locus(x, 7, 4, 6, 1, 1, 7 * 21);
    x.make(20, 0, 4, 0);
    x.make(3, 3, 8, 0);
    // The circle around (0, 0) through (t, 0) meets it first at 1, 2 or 3.
    locus(x, 9, 4, 3, 1, 1, 7 * 6);
  }

  private static void locusWithGaps() {
    PrimePlane x = plane();
    x.make(20, 0, 1, 0);
    x.make(12, 4, 3, 0);
    x.make(3, 6, 5, 0);
    // x = t meets the circle of the square 1 at (0, 1), (1, 0), (2, 2), (5, 2), (6, 0), not for 3 and 4.
    locus(x, 7, 4, 5, 2, 2, 1 + 7 + 16 + 37 + 42);
  }

  private static void locusWithThreeInLine() {
    PrimePlane x = plane();
    x.make(22, 2, 4, 1);
    x.make(20, 4, 1, 0);
    x.make(5, 5, 6, 0);
    // At (0, 1), (0, 2), (0, 3), which are in line, and then at (1, 0).
    locus(x, 7, 4, 4, 3, 1, 1 + 2 + 3 + 7);
  }

  private static void locusLacking() {
    PrimePlane x = plane();
    x.make(10, 0, 0, 0);
    x.point(5, 4, 0);
    locus(x, 6, 6, 0, 0, 7, 0);
    locus(x, 4, 6, 1, 0, 0, 35);
    x.make(7, 4, 6, 0);
    locus(x, 7, 4, 0, 0, 7, 0);
    x.move(1, 0, 0);
    locus(x, 4, 4, 0, 0, 7, 0);
    x.move(1, 1, 0);
    Due.is("t is kept", 5, () -> x.number(4, 0));
  }

  private static void locusOrder() {
    PrimePlane x = plane();
    x.make(20, 0, 1, 0);
    for (int bad : new int[] {-1, 6, Integer.MIN_VALUE, Integer.MAX_VALUE}) {
      Due.noIndex("locus(" + bad + ", 4, 0)", x, () -> x.locus(bad, 4, 0));
      Due.noIndex("locus(0, " + bad + ", 0)", x, () -> x.locus(0, bad, 0));
      Due.noIndex("locus(0, 4, " + bad + ")", x, () -> x.locus(0, 4, bad));
      Due.noIndex("locus(3, 0, " + bad + ")", x, () -> x.locus(3, 0, bad));
    }
    Due.noIndex("locus(0, 4, 4)", x, () -> x.locus(0, 4, 4));
    Due.noState("locus(3, 4, 0): a line", x, () -> x.locus(3, 4, 0));
    Due.noState("locus(5, 4, 0): a circle", x, () -> x.locus(5, 4, 0));
    Due.noState("locus(0, 0, 0): on a free point", x, () -> x.locus(0, 0, 0));
    Due.noState("locus(0, 3, 0): on a line", x, () -> x.locus(0, 3, 0));
    x.make(7, 0, 4, 0);
    Due.noState("locus(0, 6, 0): on a middle", x, () -> x.locus(0, 6, 0));
  }

  private static void truth() {
    PrimePlane x = plane();
    Due.is("no claims", 1, () -> x.truth());
    x.make(10, 0, 0, 0);
    x.claim(0, 0, 5, 0, 0);
    Due.is("void alone", 1, () -> x.truth());
    x.claim(0, 0, 3, 0, 0);
    Due.is("one that holds", 1, () -> x.truth());
    x.claim(0, 2, 3, 0, 0);
    Due.is("one of two", 0.5, () -> x.truth());
    x.claim(0, 1, 3, 0, 0);
    Due.is("two of three", 2.0 / 3, () -> x.truth());
    x.move(1, 0, 1);
    // Now the line is x = 0: all but the void claim hold.
    Due.is("all three", 1, () -> x.truth());
    x.claim(6, 0, 1, 0, 0);
    Due.is("three of four", 0.75, () -> x.truth());
    PrimePlane y = plane();
    y.claim(6, 0, 1, 0, 0);
    Due.is("none of one", 0, () -> y.truth());
  }

  private static long add(long d, int... numbers) {
    long sum = d;
    for (int n : numbers) {
      sum = sum * 31 + n;
    }
    return sum;
  }

  private static void digest() {
    PrimePlane x = plane();
    x.make(10, 0, 0, 0);
    x.make(20, 0, 1, 0);
    x.claim(0, 0, 5, 0, 0);
    x.claim(0, 0, 3, 0, 0);
    x.claim(0, 2, 3, 0, 0);
    long d = add(421, 7, 7, 3, 3, 1);
    d = add(d, 0, 0, -1, -1, -1, 0, 0, 0, 0);
    d = add(d, 0, 0, -1, -1, -1, 0, 1, 0, 0);
    d = add(d, 0, 0, -1, -1, -1, 0, 0, 1, 0);
    d = add(d, 1, 10, 0, 1, -1, 0, 0, 1, 0);
    d = add(d, 0, 1, 3, -1, -1, 0, 5, 0, 0);
    d = add(d, 1, 10, 0, 0, -1, 1);
    d = add(d, 2, 20, 0, 1, -1, 0, 0, 0, 1);
    d = add(d, -1, 1, 0);
    Due.isLong("digest", d, x.digest());
    x.begin(7);
    Due.isLong("digest of a plane begun anew", add(421, 7, 0, 0, 0, 0), x.digest());
  }
}
