/** The ways to make objects and the sorts of claims, and planes to try all of them on. */
final class Ways {
  static final int[] WAYS = {2, 3, 4, 5, 6, 7, 8, 10, 11, 12, 13, 20, 21, 22};
  /** The sorts of the parents for these ways: p a point, l a line, c a circle. */
  static final String[] PARENTS =
      {"ll", "lc", "lc", "cc", "cc", "pp", "pl", "pp", "pl", "pl", "pp", "pp", "ppp", "ppp"};
  /** Likewise for the claims of the sorts 0 to 7. */
  static final String[] SUBJECTS = {"pl", "pc", "ppp", "ll", "ll", "pppp", "pp", "lll"};

  private Ways() {
  }

  /** For each letter of the sorts the object of this sort, otherwise 0; four in all. */
  static int[] chosen(String sorts, int point, int line, int circle) {
    int[] g = new int[4];
    for (int i = 0; i < sorts.length(); i++) {
      g[i] = sorts.charAt(i) == 'p' ? point : sorts.charAt(i) == 'l' ? line : circle;
    }
    return g;
  }

  /**
   * Of (0, 0) and the home of 1, and lacking if they are at the same place: 4 a line, 5 a circle, 6 a point on 4.
   * Of others: 2 and 3 points, 7 a line, 8 a circle.
   */
  static PrimePlane fragile(int homeX, int homeY) {
    PrimePlane x = Due.plane(7, 0, 0, homeX, homeY, 1, 1, 3, 3);
    x.make(10, 0, 1, 0);
    x.make(20, 0, 1, 0);
    x.point(4, 5, 0);
    x.make(10, 2, 3, 0);
    x.make(20, 2, 3, 0);
    return x;
  }

  /** The parents for the way at this index: all steady on such a plane, but the one at k. */
  static int[] parents(int index, int k, int point, int line, int circle) {
    String sorts = PARENTS[index];
    int[] g = chosen(sorts, 2, 7, 8);
    g[1] = g[1] == 2 ? 3 : g[1];
    g[2] = 0;
    g[k] = chosen(sorts, point, line, circle)[k];
    return g;
  }
}
