/** Promises 1 to 5: a new object, begin, inverse, root, count. */
final class PlaneTest {
  private static final int[] PRIMES = {7, 11, 19, 23, 31, 43};

  public static void main(String[] args) {
    newObject();
    begin();
    for (int p : PRIMES) {
      inverse(p);
      root(p);
    }
    count();
    Due.end();
  }

  private static void newObject() {
    PrimePlane x = new PrimePlane();
    Due.is("new: p", 43, () -> x.count(0));
    Due.is("new: objects", 0, () -> x.count(1));
    Due.is("new: claims", 0, () -> x.count(2));
    Due.is("new: free points", 0, () -> x.count(3));
    Due.is("new: lacking", 0, () -> x.count(4));
    Due.is("new: 1 / 2", 22, () -> x.inverse(2));
    Due.is("new: root of 42", -1, () -> x.root(42));
    Due.is("new: truth", 1, () -> x.truth());
    // ((((421 * 31 + 43) * 31 + 0) ..
    Due.isLong("new: digest", ((421L * 31 + 43) * 31) * 31 * 31 * 31, x.digest());
    Due.noIndex("new: object(0, 0)", x, () -> x.object(0, 0));
    Due.noIndex("new: holds(0)", x, () -> x.holds(0));
  }

  private static void begin() {
    PrimePlane x = new PrimePlane();
    for (int p : PRIMES) {
      Due.is("begin(" + p + ")", p * p, () -> x.begin(p));
      Due.is("p", p, () -> x.count(0));
    }
    x.point(-1, 1, 2);
    x.point(-1, 3, 4);
    x.make(10, 0, 0, 0);
    x.claim(6, 0, 1, 0, 0);
    int[] others = {-7, -1, 0, 1, 2, 3, 5, 6, 8, 9, 13, 17, 29, 37, 41, 42, 44, 47, 59,
        Integer.MAX_VALUE, Integer.MIN_VALUE};
    for (int p : others) {
      Due.noArgument("begin(" + p + ")", x, () -> x.begin(p));
    }
    Due.is("still three objects", 3, () -> x.count(1));
    Due.is("begin again", 49, () -> x.begin(7));
    Due.is("no objects", 0, () -> x.count(1));
    Due.is("no claims", 0, () -> x.count(2));
    Due.is("no free points", 0, () -> x.count(3));
    Due.is("none lacking", 0, () -> x.count(4));
    Due.noIndex("object(0, 0) is gone", x, () -> x.object(0, 0));
    Due.noIndex("holds(0) is gone", x, () -> x.holds(0));
    Due.is("numbers start anew", 0, () -> x.point(-1, 6, 6));
    Due.is("the new one has no parent", -1, () -> x.object(0, 2));
    Due.is("claims start anew", 0, () -> x.claim(6, 0, 0, 0, 0));
  }

  private static void inverse(int p) {
    PrimePlane x = new PrimePlane();
    x.begin(p);
    for (int a = 1; a < p; a++) {
      int n = a;
      Due.is("p " + p + " a * inverse(" + n + ")", 1, () -> n * x.inverse(n) % p);
      Due.is("p " + p + " inverse(" + n + ") is a number", 1,
          () -> x.inverse(n) > 0 && x.inverse(n) < p ? 1 : 0);
    }
    int[] others = {0, -1, p, p + 1, Integer.MAX_VALUE, Integer.MIN_VALUE};
    for (int a : others) {
      Due.noArgument("p " + p + " inverse(" + a + ")", x, () -> x.inverse(a));
    }
  }

  private static void root(int p) {
    PrimePlane x = new PrimePlane();
    x.begin(p);
    for (int a = 0; a < p; a++) {
      int least = -1;
      for (int r = p - 1; r >= 0; r--) {
        least = r * r % p == a ? r : least;
      }
      int n = a;
      Due.is("p " + p + " root(" + n + ")", least, () -> x.root(n));
    }
    int[] others = {-1, p, p + 1, Integer.MAX_VALUE, Integer.MIN_VALUE};
    for (int a : others) {
      Due.noArgument("p " + p + " root(" + a + ")", x, () -> x.root(a));
    }
  }

  private static void count() {
    PrimePlane x = new PrimePlane();
    x.begin(11);
    x.point(-1, 1, 1);
    x.point(-1, 1, 1);
    x.point(-1, 2, 5);
    x.make(10, 0, 1, 0);
    x.make(10, 0, 2, 0);
    x.point(4, 3, 0);
    x.make(11, 2, 3, 0);
    x.claim(3, 3, 4, 0, 0);
    x.claim(6, 0, 1, 0, 0);
    Due.is("p", 11, () -> x.count(0));
    Due.is("objects", 7, () -> x.count(1));
    Due.is("claims", 2, () -> x.count(2));
    Due.is("a point on a line is no free one", 3, () -> x.count(3));
    Due.is("a line through one place, and what is made of it", 2, () -> x.count(4));
    x.move(1, 3, 3);
    Due.is("they come back", 0, () -> x.count(4));
    int[] others = {-1, 5, 6, Integer.MAX_VALUE, Integer.MIN_VALUE};
    for (int what : others) {
      Due.noIndex("count(" + what + ")", x, () -> x.count(what));
    }
  }
}
