/** What the tests share: calls, the answers that are due, and a count of the wrong ones. */
final class Due {
  interface Call {
    double answer();
  }

  private static int asked = 0;
  private static int wrong = 0;

  private Due() {
  }

  static void is(String name, double due, Call call) {
    asked++;
    String got;
    try {
      double answer = call.answer();
      if (answer == due) {
        return;
      }
      got = "answered " + answer;
    } catch (RuntimeException e) {
      got = "threw " + e;
    }
    tell(name + " " + got + ", due is " + due);
  }

  static void isLong(String name, long due, long got) {
    asked++;
    if (got != due) {
      tell(name + " answered " + got + ", due is " + due);
    }
  }

  static void noArgument(String name, PrimePlane x, Call call) {
    refused(name, x, IllegalArgumentException.class, call);
  }

  static void noIndex(String name, PrimePlane x, Call call) {
    refused(name, x, IndexOutOfBoundsException.class, call);
  }

  static void noState(String name, PrimePlane x, Call call) {
    refused(name, x, IllegalStateException.class, call);
  }

  /** The call has to throw just this exception, and to leave the plane as it was. */
  private static void refused(String name, PrimePlane x, Class<?> due, Call call) {
    asked++;
    long before = x.digest();
    String got;
    try {
      got = "answered " + call.answer();
    } catch (RuntimeException e) {
      got = e.getClass() == due ? "" : "threw " + e;
    }
    if (!got.isEmpty()) {
      tell(name + " " + got + ", due is " + due.getName());
    }
    if (x.digest() != before) {
      tell(name + " changed the plane");
    }
  }

  static void tell(String what) {
    wrong++;
    if (wrong <= 50) {
      System.out.println(what);
    }
  }

  static void end() {
    System.out.println(asked + " answers, " + wrong + " of them wrong");
    System.exit(wrong == 0 && asked > 0 ? 0 : 1);
  }
}
