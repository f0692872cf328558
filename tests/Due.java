/** What the tests share: calls, the answers that are due, and a count of the wrong ones. */
final class Due {
  interface Call {
    double answer();
  }

  private static int asked = 0;
  private static int wrong = 0;

  private Due() {
  }

  static void is(String name, double due, Call call) {
    asked++;
    String got;
    try {
      double answer = call.answer();
      if (answer == due) {
        return;
      }
      got = "answered " + answer;
    } catch (RuntimeException e) {
      got = "threw " + e;
    }
    tell(name + " " + got + ", due is " + due);
  }

  static void isLong(String name, long due, long got) {
    asked++;
    if (got != due) {
      tell(name + " answered " + got + ", due is " + due);
    }
  }

  static void noArgument(String name, PrimePlane x, Call call) {
    refused(name, x, IllegalArgumentException.class, call);
  }

  static void noIndex(String name, PrimePlane x, Call call) {
    refused(name, x, IndexOutOfBoundsException.class, call);
  }

  static void noState(String name, PrimePlane x, Call call) {
    refused(name, x, IllegalStateException.class, call);
  }

  /** A plane of this p with free points at these places: x, y, x, y, .. */
  static PrimePlane plane(int p, int... places) {
    PrimePlane x = new PrimePlane();
    x.begin(p);
    for (int i = 0; i + 1 < places.length; i += 2) {
      x.point(-1, places[i], places[i + 1]);
    }
    return x;
  }

  /** The object is there, with these numbers. */
  static void at(PrimePlane x, int object, int first, int second, int third) {
    String name = "object " + object + " number ";
    is(name + 0, first, () -> x.number(object, 0));
    is(name + 1, second, () -> x.number(object, 1));
    is(name + 2, third, () -> x.number(object, 2));
  }

  static void lacks(PrimePlane x, int object) {
    is("object " + object + " is lacking", 1, () -> x.object(object, 5));
    noState("number of lacking object " + object, x, () -> x.number(object, 0));
  }

  /** The call has to throw just this exception, and to leave the plane as it was. */
  static void refused(String name, PrimePlane x, Class<?> due, Call call) {
    asked++;
    long before = x.digest();
    String got;
    try {
      got = "answered " + call.answer();
    } catch (RuntimeException e) {
      got = e.getClass() == due ? "" : "threw " + e;
    }
    if (!got.isEmpty()) {
      tell(name + " " + got + ", due is " + due.getName());
    }
    if (x.digest() != before) {
      tell(name + " changed the plane");
    }
  }

  static void tell(String what) {
    wrong++;
    if (wrong <= 50) {
      System.out.println(what);
    }
  }

  static void end() {
    System.out.println(asked + " answers, " + wrong + " of them wrong");
    System.exit(wrong == 0 && asked > 0 ? 0 : 1);
  }
}
