import java.util.ArrayList;
import java.util.List;

/**
 * Refused calls: for all mixes of good and bad arguments the exception that the document names first is thrown, and
 * the plane stays as it was, also where it is seen only later on. Three planes are asked: one without objects, one
 * with room, and one with 40 objects and 20 claims.
 */
final class RefusalTest {
  private static final Class<?> INDEX = IndexOutOfBoundsException.class;
  private static final Class<?> ARGUMENT = IllegalArgumentException.class;
  private static final Class<?> STATE = IllegalStateException.class;
  private static final int MIN = Integer.MIN_VALUE;
  private static final int MAX = Integer.MAX_VALUE;
  private static final int P = 7;

  /** A plane stands 512 calls: each refusal takes three, and the building and the end some 100. */
  private static final int REFUSALS_OF_A_PLANE = 100;

  /** The sorts of the first ten objects; all that is behind them are points. */
  private static final int[] SORTS = {0, 0, 0, 0, 1, 2, 1, 2, 0, 0};
  private static final boolean[] LACKING = {false, false, false, false, false, false, true, true, true, false};

  private interface Face {
    double on(PrimePlane x);
  }

  private final int objects;
  private final int claims;
  private PrimePlane plane;
  private int refusals;

  private RefusalTest(int objects, int claims) {
    this.objects = objects;
    this.claims = claims;
    plane = built();
  }

  public static void main(String[] args) {
    int[][] sizes = {{0, 0}, {10, 3}, {40, 20}, {40, 3}, {10, 20}};
    for (int[] size : sizes) {
      RefusalTest t = new RefusalTest(size[0], size[1]);
      t.numbers();
      t.points();
      t.makings();
      t.moves();
      t.objectsAndNumbers();
      t.squares();
      t.claimings();
      t.holdings();
      t.everywheres();
      t.loci();
      t.compareWithAnUntouchedOne();
    }
    Due.end();
  }

  /** 6, 7 and 8 are lacking, as 0 and 1 are at the same place. */
  private PrimePlane built() {
    PrimePlane x = Due.plane(P);
    if (objects > 0) {
      x = Due.plane(P, 0, 0, 0, 0, 3, 5, 1, 2);
      x.make(10, 2, 3, 0);
      x.make(20, 2, 3, 0);
      x.make(10, 0, 1, 0);
      x.make(20, 0, 1, 0);
      x.point(6, 5, 0);
      x.point(4, 2, 0);
    }
    for (int i = 10; i < objects; i++) {
      x.make(7, i - 1, 8, 0);
    }
    for (int i = 0; i < claims; i++) {
      x.claim(0, i % 3 == 0 ? 9 : i % 3 == 1 ? 8 : 0, i % 2 == 0 ? 4 : 6, 0, 0);
    }
    return x;
  }

  /** After many refusals the plane answers to all calls as one that has never refused one. */
  private void compareWithAnUntouchedOne() {
    PrimePlane x = built();
    Due.isLong("digest after refusals", x.digest(), plane.digest());
    Due.is("what is made next", x.count(1) == 40 ? -1 : x.point(-1, 6, 6),
        () -> plane.count(1) == 40 ? -1 : plane.point(-1, 6, 6));
    if (objects > 0) {
      Due.is("lacking then", x.move(1, 2, 4), () -> plane.move(1, 2, 4));
      Due.isLong("digest when all came back", x.digest(), plane.digest());
      Due.is("everywhere", x.everywhere(1, 1, 0), () -> plane.everywhere(1, 1, 0));
      Due.is("locus", x.locus(8, 8, 3), () -> plane.locus(8, 8, 3));
      Due.is("truth", x.truth(), () -> plane.truth());
    }
    Due.is("begin", 49, () -> plane.begin(P));
    Due.isLong("digest of a plane begun anew", Due.plane(P).digest(), plane.digest());
    plane = built();
    refusals = 0;
  }

  /** The exception due is thrown; without one the call answers, asked of a plane of its own. */
  private void ask(String name, Class<?> due, Face call) {
    if (due == null) {
      PrimePlane other = built();
      Due.is(name + " is not refused", 1, () -> call.on(other) >= -1 ? 1 : 0);
      return;
    }
    Due.refused(name + " with " + objects + " objects, " + claims + " claims", plane, due, () -> call.on(plane));
    refusals++;
    if (refusals == REFUSALS_OF_A_PLANE) {
      compareWithAnUntouchedOne();
    }
  }

  // ---- the document's words

  private boolean isObject(int i) {
    return i >= 0 && i < objects;
  }

  private int sortOf(int i) {
    return i < SORTS.length ? SORTS[i] : 0;
  }

  /** Those behind the tenth are made of 8, which is lacking. */
  private boolean isLacking(int i) {
    return i >= LACKING.length || LACKING[i];
  }

  private static boolean isNumber(int n) {
    return n >= 0 && n < P;
  }

  /** Objects of all sorts, there and lacking, and what is none. */
  private int[] someObjects() {
    return objects == 0 ? new int[] {0, -1, -2, MIN, MAX, 40}
        : new int[] {2, 4, 5, 6, 7, 8, 9, objects - 1, objects, -1, -2, MIN, MAX};
  }

  private int[] fewObjects() {
    return objects == 0 ? new int[] {0, -1} : new int[] {0, 2, 4, 5, objects, -1};
  }

  private static final int[] NUMBERS = {0, P - 1, P, -1, MIN, MAX};

  private void numbers() {
    for (int i = -3; i < 50; i++) {
      int n = i == -3 ? MIN : i == -2 ? MAX : i;
      boolean prime = n == 7 || n == 11 || n == 19 || n == 23 || n == 31 || n == 43;
      ask("begin(" + n + ")", prime ? null : ARGUMENT, x -> x.begin(n));
      ask("inverse(" + n + ")", isNumber(n) && n != 0 ? null : ARGUMENT, x -> x.inverse(n));
      ask("root(" + n + ")", isNumber(n) ? null : ARGUMENT, x -> x.root(n));
      ask("count(" + n + ")", n >= 0 && n <= 4 ? null : INDEX, x -> x.count(n));
    }
  }

  private void points() {
    for (int line : someObjects()) {
      for (int a : NUMBERS) {
        for (int b : NUMBERS) {
          Class<?> due = line != -1 && !isObject(line) ? INDEX
              : line != -1 && sortOf(line) != 1 || !isNumber(a) || line == -1 && !isNumber(b) ? ARGUMENT
              : objects == 40 ? STATE : null;
          ask("point(" + line + ", " + a + ", " + b + ")", due, x -> x.point(line, a, b));
        }
      }
    }
  }

  /** The ways to make objects, and nine that are none. */
  private static final int[] WAYS =
      {2, 3, 4, 5, 6, 7, 8, 10, 11, 12, 13, 20, 21, 22, -1, 0, 1, 9, 14, 19, 23, MIN, MAX};
  private static final int[][] PARENTS = {{1, 1}, {1, 2}, {1, 2}, {2, 2}, {2, 2}, {0, 0}, {0, 1}, {0, 0}, {0, 1},
      {0, 1}, {0, 0}, {0, 0}, {0, 0, 0}, {0, 0, 0}};

  /** What is due of objects that have to be of these sorts, of others that have to be 0, and of a row that is full. */
  private Class<?> dueOf(int[] sorts, int[] given, boolean full) {
    Class<?> due = full ? STATE : null;
    for (int i = 0; i < given.length; i++) {
      boolean needed = i < sorts.length;
      if (needed && !isObject(given[i])) {
        return INDEX;
      }
      due = needed && sortOf(given[i]) != sorts[i] || !needed && given[i] != 0 ? STATE : due;
    }
    return due;
  }

  private void makings() {
    for (int i = 0; i < WAYS.length; i++) {
      int way = WAYS[i];
      for (int a : fewObjects()) {
        for (int b : fewObjects()) {
          for (int c : fewObjects()) {
            Class<?> due = i < PARENTS.length ? dueOf(PARENTS[i], new int[] {a, b, c}, objects == 40) : ARGUMENT;
            ask("make(" + way + ", " + a + ", " + b + ", " + c + ")", due, x -> x.make(way, a, b, c));
          }
        }
      }
    }
  }

  private void moves() {
    for (int object : someObjects()) {
      for (int a : NUMBERS) {
        for (int b : NUMBERS) {
          boolean there = isObject(object);
          boolean free = there && object < 4;
          boolean onLine = object == 8 || object == 9;
          Class<?> due = !there ? INDEX
              : !isNumber(a) || free && !isNumber(b) ? ARGUMENT : free || onLine ? null : STATE;
          ask("move(" + object + ", " + a + ", " + b + ")", due, x -> x.move(object, a, b));
        }
      }
    }
  }

  private static final int[] WHATS = {0, 1, 2, 3, 4, 5, 6, -1, MIN, MAX};

  private void objectsAndNumbers() {
    for (int object : someObjects()) {
      boolean there = isObject(object);
      for (int what : WHATS) {
        Class<?> due = !there || what < 0 || what > 5 ? INDEX : null;
        ask("object(" + object + ", " + what + ")", due, x -> x.object(object, what));
        Class<?> dueNumber = !there || what < 0 || what > 2 ? INDEX : isLacking(object) ? STATE : null;
        ask("number(" + object + ", " + what + ")", dueNumber, x -> x.number(object, what));
      }
      ask("places(" + object + ")", there ? null : INDEX, x -> x.places(object));
    }
  }

  private void squares() {
    for (int a : someObjects()) {
      for (int b : someObjects()) {
        Class<?> due = !isObject(a) || !isObject(b) ? INDEX
            : sortOf(a) != 0 || sortOf(b) != 0 || isLacking(a) || isLacking(b) ? STATE : null;
        ask("square(" + a + ", " + b + ")", due, x -> x.square(a, b));
      }
    }
  }

  private static final int[][] SUBJECTS =
      {{0, 1}, {0, 2}, {0, 0, 0}, {1, 1}, {1, 1}, {0, 0, 0, 0}, {0, 0}, {1, 1, 1}};

  private void claimings() {
    for (int i = 0; i < 12; i++) {
      int sort = i < 8 ? i : new int[] {-1, 8, MIN, MAX}[i - 8];
      for (int a : fewObjects()) {
        for (int b : fewObjects()) {
          for (int c : fewObjects()) {
            for (int d : fewObjects()) {
              int[] given = {a, b, c, d};
              int first = isObject(a) ? sortOf(a) : 0;
              int[] sorts = i == 6 ? new int[] {first, first} : i < 8 ? SUBJECTS[i] : null;
              Class<?> due = sorts == null ? ARGUMENT : dueOf(sorts, given, claims == 20);
              ask("claim(" + sort + ", " + a + ", " + b + ", " + c + ", " + d + ")", due,
                  x -> x.claim(sort, a, b, c, d));
            }
          }
        }
      }
    }
  }

  private List<Integer> someClaims() {
    List<Integer> some = new ArrayList<>(List.of(-1, -2, MIN, MAX, 40, claims, claims + 1));
    for (int i = 0; i < claims && i < 3; i++) {
      some.add(i);
    }
    return some;
  }

  private boolean isClaim(int i) {
    return i >= 0 && i < claims;
  }

  private void holdings() {
    for (int claim : someClaims()) {
      ask("holds(" + claim + ")", isClaim(claim) ? null : INDEX, x -> x.holds(claim));
    }
  }

  private void everywheres() {
    for (int claim : someClaims()) {
      for (int object : someObjects()) {
        for (int what : new int[] {0, 1, 2, 3, -1, MIN, MAX}) {
          Class<?> due = !isClaim(claim) || !isObject(object) || what < 0 || what > 2 ? INDEX
              : object < 4 ? null : STATE;
          ask("everywhere(" + claim + ", " + object + ", " + what + ")", due, x -> x.everywhere(claim, object, what));
        }
      }
    }
  }

  private void loci() {
    for (int point : someObjects()) {
      for (int on : someObjects()) {
        for (int what : new int[] {0, 1, 2, 3, 4, -1, MIN, MAX}) {
          Class<?> due = !isObject(point) || !isObject(on) || what < 0 || what > 3 ? INDEX
              : sortOf(point) == 0 && (on == 8 || on == 9) ? null : STATE;
          ask("locus(" + point + ", " + on + ", " + what + ")", due, x -> x.locus(point, on, what));
        }
      }
    }
  }
}
