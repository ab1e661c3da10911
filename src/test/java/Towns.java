/** Objects to look at edges on: how they are made, each telling by how many calls. */
final class Towns {
  private Towns() { }

  /** tp of a window. */
  static int tp(int tune, int purse) { return 1000 * (tune + 99) + purse; }

  /** How many calls it took. */
  static int feed(PaidElsewhere x, String text) {
    int calls = 0;
    for (int i = 0; i < text.length(); i += 4, calls++) {
      int n = Math.min(4, text.length() - i), v = 0;
      for (int j = 0; j < n; j++) v |= text.charAt(i + j) << 8 * j;
      x.feed(n, v);
    }
    return calls;
  }

  static int law(PaidElsewhere x, String text) {
    feed(x, text);
    return x.law();
  }

  static int nothing(PaidElsewhere x) { return 0; }

  /** Something of all: what a call could spoil is there. */
  static int rich(PaidElsewhere x) {
    int calls = figures(x) + weeksAndLaw(x) + shelves(x);
    x.mend(0, 0, 21);
    x.mend(1, 1, -20);
    x.mend(1, 2, 55);
    x.undo();
    return calls + 4;
  }

  private static int figures(PaidElsewhere x) {
    x.street(40, 12);
    x.street(60, 0);
    x.window(20, tp(5, 100));
    x.window(8, tp(-10, 50));
    x.window(130, tp(40, 7));
    x.player(230, 50, 0);
    x.player(810, 100, -1);
    x.player(525, 0, 1);
    x.pay(0, 120);
    x.pay(1, 230);
    return 10;
  }

  private static int weeksAndLaw(PaidElsewhere x) {
    int calls = feed(x, "t-c+p/2-n*7");
    x.law();
    x.weeks(3, 1);
    return calls + 2 + feed(x, "c+k*9");
  }

  private static int shelves(PaidElsewhere x) {
    x.body(0);
    x.body(3);
    x.body(7);
    x.act(2, 3, 5);
    x.row(0, 1, 5);
    for (int i = 0; i < 5; i++) x.put(0, i, new int[] {1, 20, -7, 300, 9}[i]);
    x.keep(1, 1);
    x.row(2, 0, 3);
    x.put(2, 1, 77);
    x.row(3, 3, 4);
    x.put(3, 3, 1L << 40);
    x.row(4, 4, 0);
    return 16;
  }

  /** All streets, windows, players and bodies that can be, and a tape that only one byte more would go on. */
  static int full(PaidElsewhere x) {
    for (int k = 0; k < 6; k++) x.street(10 * k, k);
    for (int w = 0; w < 30; w++) x.window(100 * (w % 6) + w, tp(w, w));
    for (int p = 0; p < 8; p++) x.player(100 * p + p, p, p % 6);
    for (int i = 0; i < 50; i++) x.body(i % 8);
    return 94 + feed(x, "1" + "+1".repeat(59));
  }

  /**
   * All streets and players, but only player 7 has GOOD, 10, and COST, 36; only street 5 has TAKE, 40, and a LAW, 3.
   * HARMS by player 7: of windows 0 and 1 of street 0 5 (by all), of windows 2 to 4 of street 5 10, 10, -7 (by others 0).
   */
  static int lastPair(PaidElsewhere x) {
    for (int k = 0; k < 6; k++) x.street(k < 5 ? 0 : 40, k < 5 ? 0 : 3);
    for (int p = 0; p < 8; p++) x.player(p < 7 ? 0 : 1036, 0, -1);
    x.window(5, tp(0, 5));
    x.window(5, tp(0, 5));
    x.window(500, tp(-10, 9));
    x.window(500, tp(-10, 99));
    x.window(500, tp(7, 0));
    return 19;
  }

  /** Streets without anything else. */
  static PaidElsewhere streets(int... takes) {
    PaidElsewhere x = new PaidElsewhere();
    for (int take : takes) x.street(take, 0);
    return x;
  }
}
