/** The edges of promises 30 to 36: shelves, rows, and counting. */
public final class EdgesShelvesTest {
  private static final int BAD = Edges.BAD, NOTHING = Edges.NOTHING, OTHER_KIND = Edges.OTHER_KIND;
  private static final int NO_PLACE = Edges.NO_PLACE, BELOW_0 = Edges.BELOW_0, LOW = Edges.LOW, HIGH = Edges.HIGH;
  private static final long NONE = Long.MIN_VALUE;
  private static final int BYTES = 0, SHORTS = 1, INTS = 2, LONGS = 3, BOOLEANS = 4;
  /** The shelves of rich(): 5 shorts, a body of KIND 3, 3 bytes, 4 longs, no booleans, nothing. */
  private static final int RICH_SHORTS = 0, RICH_BODY = 1, RICH_BYTES = 2, RICH_LONGS = 3, RICH_NONE = 4, RICH_NOTHING = 5;
  private static final int[] NO_SHELF = {-1, 6, 100, LOW, HIGH};

  public static void main(String[] args) {
    keep();
    row();
    rowRefused();
    put();
    putRefused();
    element();
    shift();
    shiftOverlaps();
    shiftRefused();
    shiftOrder();
    shiftPlaces();
    taken();
    count();
    Edges.end(30, 36);
  }

  private static void edge(int promise, String sentence, Edges.Case it) { Edges.edge(promise, sentence, it); }
  private static void due(long got, long want) { Edges.due(got, want); }
  private static void refused(Edges.Setup setup, long want, Edges.Call call) { Edges.refused(setup, want, call); }

  private static void keep() {
    edge(30, "A SHELF holds nothing (body -1), or a WINDOW: 1. BAD.", () -> {
      for (int shelf : NO_SHELF) for (int body = -1; body < 2; body++) {
        int of = body;
        refused(Towns::rich, BAD, x -> x.keep(shelf, of));
      }
      // rich() has bodies 0 to 2
      for (int body : new int[] {-2, 3, 50, LOW, HIGH}) {
        for (int shelf = 0; shelf < 6; shelf++) {
          int on = shelf;
          refused(Towns::rich, BAD, x -> x.keep(on, body));
        }
      }
      refused(Towns::nothing, BAD, x -> x.keep(0, 0));
      refused(Towns::full, BAD, x -> x.keep(0, 50));
    });
    edge(30, "A SHELF holds nothing (body -1), or a WINDOW: 1. BAD.", () -> {
      PaidElsewhere x = new PaidElsewhere();
      for (int i = 0; i < 50; i++) x.body(i % 8);
      for (int shelf = 0; shelf < 6; shelf++) {
        due(x.keep(shelf, -1), 1);
        due(x.taken(shelf, 0), NOTHING);
        due(x.keep(shelf, 49), 1);
        due(x.taken(shelf, 0), 1);
        due(x.keep(shelf, 0), 1);
        due(x.taken(shelf, 0), 0);
        due(x.keep(shelf, -1), 1);
        due(x.taken(shelf, 0), NOTHING);
      }
    });
    edge(30, "SHELVES 0 .. 5 each hold nothing (at first), a WINDOW (a BODY), or a ROW", () -> {
      // one of them at a time: the last told; a row that was put away doesn't come back
      PaidElsewhere x = new PaidElsewhere();
      x.body(6);
      x.row(2, LONGS, 3);
      x.put(2, 1, 5);
      due(x.keep(2, 0), 1);
      due(x.put(2, 1, 6), OTHER_KIND);
      due(x.taken(2, 6), 6);
      due(x.row(2, LONGS, 3), 1);
      due(x.taken(2, 6), OTHER_KIND);
      due(x.element(2, 1), 0);
      x.put(2, 1, 5);
      due(x.keep(2, -1), 1);
      due(x.put(2, 1, 6), NOTHING);
      due(x.element(2, 1), NONE);
      due(x.taken(1, 0), NOTHING);
      due(x.taken(3, 0), NOTHING);
    });
  }

  private static void row() {
    edge(31, "of 0 .. 60 elements, 0 at first (false)", () -> {
      for (int sort = 0; sort < 5; sort++) {
        for (int n : new int[] {0, 1, 59, 60}) {
          PaidElsewhere x = new PaidElsewhere();
          due(x.row(5, sort, n), 1);
          for (int i = 0; i < n; i++) due(x.element(5, i), 0);
          due(x.element(5, n), NONE);
          due(x.put(5, n, 1), NO_PLACE);
          due(x.taken(5, 0), OTHER_KIND);
        }
      }
    });
    edge(31, "of 0 .. 60 elements, 0 at first (false)", () -> {
      // a row in the place of another one is 0 at first, too, whatever was there
      PaidElsewhere x = new PaidElsewhere();
      x.row(0, LONGS, 60);
      for (int i = 0; i < 60; i++) x.put(0, i, -1L);
      for (int sort : new int[] {LONGS, BOOLEANS, BYTES, LONGS}) {
        due(x.row(0, sort, 59), 1);
        for (int i = 0; i < 59; i += 29) {
          due(x.element(0, i), 0);
          x.put(0, i, 7);
        }
        due(x.element(0, 59), NONE);
      }
      due(x.row(0, LONGS, 60), 1);
      due(x.element(0, 59), 0);
    });
  }

  private static void rowRefused() {
    edge(31, "A SHELF holds a ROW: 1. BAD (sort, n above 60); -14.", () -> {
      for (int shelf : NO_SHELF) refused(Towns::rich, BAD, x -> x.row(shelf, 0, 1));
      for (int sort : new int[] {-1, 5, LOW, HIGH}) refused(Towns::rich, BAD, x -> x.row(0, sort, 1));
      for (int n : new int[] {61, 100, HIGH}) {
        for (int sort = 0; sort < 5; sort++) {
          int of = sort;
          refused(Towns::rich, BAD, x -> x.row(0, of, n));
        }
      }
    });
    edge(31, "-14 a size below 0", () -> {
      for (int shelf = 0; shelf < 6; shelf++) {
        int on = shelf;
        for (int n : new int[] {-1, -60, LOW}) refused(Towns::rich, BELOW_0, x -> x.row(on, on % 5, n));
      }
      refused(Towns::nothing, BELOW_0, x -> x.row(0, 0, -1));
    });
    edge(31, "Answers, of several the one named first: BAD (-1)", () -> {
      refused(Towns::rich, BAD, x -> x.row(6, 0, -1));
      refused(Towns::rich, BAD, x -> x.row(-1, 0, -1));
      refused(Towns::rich, BAD, x -> x.row(0, 5, -1));
      refused(Towns::rich, BAD, x -> x.row(0, -1, LOW));
    });
  }

  private static void put() {
    edge(32, "what is put in keeps its lowest bits", () -> {
      long[][] bytes = {{127, 127}, {128, -128}, {255, -1}, {256, 0}, {257, 1}, {-128, -128}, {-129, 127}, {NONE, 0},
          {Long.MAX_VALUE, -1}};
      long[][] shorts = {{32767, 32767}, {32768, -32768}, {65535, -1}, {65536, 0}, {-32768, -32768}, {-32769, 32767}, {NONE, 0},
          {Long.MAX_VALUE, -1}};
      long[][] ints = {{HIGH, HIGH}, {1L << 31, LOW}, {(1L << 32) - 1, -1}, {1L << 32, 0}, {LOW, LOW}, {LOW - 1L, HIGH}, {NONE, 0},
          {Long.MAX_VALUE, -1}};
      long[][] longs = {{Long.MAX_VALUE, Long.MAX_VALUE}, {NONE, NONE}, {1L << 32, 1L << 32}, {-1, -1}};
      long[][][] all = {bytes, shorts, ints, longs};
      for (int sort = 0; sort < 4; sort++) {
        PaidElsewhere x = new PaidElsewhere();
        x.row(0, sort, 3);
        for (long[] one : all[sort]) {
          due(x.put(0, 1, one[0]), 1);
          due(x.element(0, 1), one[1]);
        }
        due(x.element(0, 0), 0);
        due(x.element(0, 2), 0);
      }
    });
    edge(32, "(a boolean: whether it is not 0; 1 or 0)", () -> {
      PaidElsewhere x = new PaidElsewhere();
      x.row(0, BOOLEANS, 2);
      for (long v : new long[] {1, 2, -1, 256, 65536, 1L << 32, NONE, Long.MAX_VALUE}) {
        due(x.put(0, 1, v), 1);
        due(x.element(0, 1), 1);
        due(x.put(0, 1, 0), 1);
        due(x.element(0, 1), 0);
      }
    });
    edge(32, "Element i of a ROW becomes v: 1.", () -> {
      PaidElsewhere x = new PaidElsewhere();
      x.row(0, INTS, 60);
      due(x.put(0, 0, 5), 1);
      due(x.put(0, 59, 6), 1);
      due(x.element(0, 0), 5);
      due(x.element(0, 59), 6);
      due(x.element(0, 1), 0);
      due(x.element(0, 58), 0);
    });
  }

  private static void putRefused() {
    edge(32, "-11 nothing is there where something is wanted; -12 it is of another kind; -13 a place that is not there", () -> {
      // one shelf, as it comes to hold nothing, a row without places, a row, a WINDOW, nothing again
      PaidElsewhere x = new PaidElsewhere();
      x.body(0);
      due(x.put(0, 0, 1), NOTHING);
      x.row(0, BYTES, 0);
      due(x.put(0, 0, 1), NO_PLACE);
      x.row(0, BYTES, 1);
      due(x.put(0, 0, 1), 1);
      due(x.put(0, 1, 1), NO_PLACE);
      x.keep(0, 0);
      due(x.put(0, 0, 1), OTHER_KIND);
      x.keep(0, -1);
      due(x.put(0, 0, 1), NOTHING);
    });
    edge(32, "BAD, -11, -12, -13.", () -> {
      for (int shelf : NO_SHELF) refused(Towns::rich, BAD, x -> x.put(shelf, 0, 1));
      refused(Towns::rich, NOTHING, x -> x.put(RICH_NOTHING, 0, 1));
      refused(Towns::rich, OTHER_KIND, x -> x.put(RICH_BODY, 0, 1));
      for (int i : new int[] {-1, 5, 60, LOW, HIGH}) refused(Towns::rich, NO_PLACE, x -> x.put(RICH_SHORTS, i, 1));
      for (int i : new int[] {-1, 4, 60}) refused(Towns::rich, NO_PLACE, x -> x.put(RICH_LONGS, i, 1));
      for (int i : new int[] {-1, 0, 1, 60}) refused(Towns::rich, NO_PLACE, x -> x.put(RICH_NONE, i, 1));
    });
    edge(32, "Answers, of several the one named first: BAD (-1)", () -> {
      for (int i : new int[] {-1, 60, LOW, HIGH}) {
        refused(Towns::rich, BAD, x -> x.put(6, i, 1));
        refused(Towns::rich, NOTHING, x -> x.put(RICH_NOTHING, i, 1));
        refused(Towns::rich, OTHER_KIND, x -> x.put(RICH_BODY, i, 1));
      }
    });
  }

  private static void element() {
    edge(33, "Element i of a ROW; Long.MIN_VALUE: BAD, -11 to -13.", () -> {
      for (int shelf : NO_SHELF) for (int i : new int[] {0, -1}) refused(Towns::rich, NONE, x -> x.element(shelf, i));
      for (int shelf : new int[] {RICH_NOTHING, RICH_BODY}) {
        for (int i : new int[] {0, -1, 60, LOW, HIGH}) refused(Towns::rich, NONE, x -> x.element(shelf, i));
      }
      for (int i : new int[] {-1, 5, 60, LOW, HIGH}) refused(Towns::rich, NONE, x -> x.element(RICH_SHORTS, i));
      for (int i : new int[] {-1, 3, 4, 60}) refused(Towns::rich, NONE, x -> x.element(RICH_BYTES, i));
      for (int i : new int[] {-1, 0, 60}) refused(Towns::rich, NONE, x -> x.element(RICH_NONE, i));
    });
    edge(33, "Element i of a ROW; Long.MIN_VALUE: BAD, -11 to -13.", () -> {
      // -1, and -11 to -14, may be elements themselves
      PaidElsewhere x = new PaidElsewhere();
      x.row(0, BYTES, 60);
      for (int i = 0; i < 15; i++) x.put(0, i, -i);
      for (int i = 0; i < 15; i++) due(x.element(0, i), -i);
      x.put(0, 59, 9);
      due(x.element(0, 59), 9);
      due(x.element(0, 60), NONE);
    });
  }

  /** Shelf 0 holds 10 .. 14, shelf 1 holds 20 .. 22. */
  private static PaidElsewhere twoRows(int sort) {
    PaidElsewhere x = new PaidElsewhere();
    x.row(0, sort, 5);
    x.row(1, sort, 3);
    for (int i = 0; i < 5; i++) x.put(0, i, 10 + i);
    for (int i = 0; i < 3; i++) x.put(1, i, 20 + i);
    return x;
  }

  private static void holds(PaidElsewhere x, int shelf, int... elements) {
    for (int i = 0; i < elements.length; i++) due(x.element(shelf, i), elements[i]);
    due(x.element(shelf, elements.length), NONE);
  }

  private static void shift() {
    edge(34, "n elements of a ROW from i on come to another one (or the same) from j on", () -> {
      for (int sort = 0; sort < 4; sort++) {
        PaidElsewhere x = twoRows(sort);
        due(x.shift(0, 3, 1, 1, 2), 2);
        holds(x, 1, 20, 13, 14);
        holds(x, 0, 10, 11, 12, 13, 14);
        due(x.shift(1, 0, 0, 2, 3), 3);
        holds(x, 0, 10, 11, 20, 13, 14);
        due(x.shift(0, 0, 1, 2, 1), 1);
        holds(x, 1, 20, 13, 10);
      }
      PaidElsewhere y = new PaidElsewhere();
      y.row(4, BOOLEANS, 2);
      y.row(5, BOOLEANS, 1);
      y.put(4, 1, 1);
      due(y.shift(4, 1, 5, 0, 1), 1);
      due(y.element(5, 0), 1);
    });
    edge(34, "from j on, as they all were before: n", () -> {
      // none at all: n is 0, from the very end, too, of a row without elements, too
      int[][] ends = {{0, 0}, {5, 3}, {5, 0}, {0, 3}, {2, 1}};
      for (int[] one : ends) {
        PaidElsewhere x = twoRows(INTS);
        due(x.shift(0, one[0], 1, one[1], 0), 0);
        holds(x, 0, 10, 11, 12, 13, 14);
        holds(x, 1, 20, 21, 22);
      }
      refused(Towns::rich, 0, x -> x.shift(RICH_NONE, 0, RICH_NONE, 0, 0));
    });
    edge(34, "n elements of a ROW from i on come to another one (or the same) from j on", () -> {
      // all sixty
      PaidElsewhere x = new PaidElsewhere();
      x.row(0, LONGS, 60);
      x.row(5, LONGS, 60);
      for (int i = 0; i < 60; i++) x.put(0, i, NONE + i);
      due(x.shift(0, 0, 5, 0, 60), 60);
      for (int i = 0; i < 60; i++) due(x.element(5, i), NONE + i);
    });
  }

  private static void shiftOverlaps() {
    edge(34, "as they all were before", () -> {
      PaidElsewhere x = twoRows(SHORTS);
      due(x.shift(0, 0, 0, 1, 4), 4);
      holds(x, 0, 10, 10, 11, 12, 13);
      PaidElsewhere y = twoRows(SHORTS);
      due(y.shift(0, 1, 0, 0, 4), 4);
      holds(y, 0, 11, 12, 13, 14, 14);
      PaidElsewhere z = twoRows(SHORTS);
      due(z.shift(0, 0, 0, 0, 5), 5);
      holds(z, 0, 10, 11, 12, 13, 14);
      due(z.shift(0, 0, 0, 2, 3), 3);
      holds(z, 0, 10, 11, 10, 11, 12);
      due(z.shift(0, 4, 0, 0, 1), 1);
      holds(z, 0, 12, 11, 10, 11, 12);
    });
  }

  private static void shiftRefused() {
    edge(34, "BAD, -11 (either), -12 (no ROWS, or of unlike sorts), -13.", () -> {
      for (int shelf : NO_SHELF) {
        refused(Towns::rich, BAD, x -> x.shift(shelf, 0, RICH_SHORTS, 0, 1));
        refused(Towns::rich, BAD, x -> x.shift(RICH_SHORTS, 0, shelf, 0, 1));
        refused(Towns::rich, BAD, x -> x.shift(shelf, 0, shelf, 0, 0));
      }
      for (int n = 0; n < 2; n++) {
        int of = n;
        refused(Towns::rich, NOTHING, x -> x.shift(RICH_NOTHING, 0, RICH_SHORTS, 0, of));
        refused(Towns::rich, NOTHING, x -> x.shift(RICH_SHORTS, 0, RICH_NOTHING, 0, of));
        refused(Towns::rich, NOTHING, x -> x.shift(RICH_NOTHING, 0, RICH_NOTHING, 0, of));
        refused(Towns::rich, OTHER_KIND, x -> x.shift(RICH_BODY, 0, RICH_SHORTS, 0, of));
        refused(Towns::rich, OTHER_KIND, x -> x.shift(RICH_SHORTS, 0, RICH_BODY, 0, of));
        refused(Towns::rich, OTHER_KIND, x -> x.shift(RICH_BODY, 0, RICH_BODY, 0, of));
      }
    });
    edge(34, "-12 (no ROWS, or of unlike sorts)", () -> {
      for (int sort = 0; sort < 5; sort++) {
        for (int other = 0; other < 5; other++) {
          PaidElsewhere x = new PaidElsewhere();
          x.row(0, sort, 2);
          x.row(1, other, 2);
          x.put(0, 0, 1);
          due(x.shift(0, 0, 1, 0, 1), sort == other ? 1 : OTHER_KIND);
          due(x.shift(0, 0, 1, 0, 0), sort == other ? 0 : OTHER_KIND);
          due(x.element(1, 0), sort == other ? 1 : 0);
        }
      }
    });
  }

  private static void shiftOrder() {
    edge(34, "Answers, of several the one named first: BAD (-1)", () -> {
      refused(Towns::rich, BAD, x -> x.shift(6, -1, RICH_NOTHING, -1, -1));
      refused(Towns::rich, BAD, x -> x.shift(RICH_NOTHING, -1, -1, -1, -1));
      refused(Towns::rich, NOTHING, x -> x.shift(RICH_NOTHING, -1, RICH_BODY, -1, -1));
      refused(Towns::rich, NOTHING, x -> x.shift(RICH_BODY, 0, RICH_NOTHING, 0, 1));
      refused(Towns::rich, OTHER_KIND, x -> x.shift(RICH_BODY, -1, RICH_SHORTS, 99, -1));
      refused(Towns::rich, OTHER_KIND, x -> x.shift(RICH_SHORTS, -1, RICH_BYTES, 0, 1));
      refused(Towns::rich, OTHER_KIND, x -> x.shift(RICH_SHORTS, 0, RICH_NONE, 0, 1));
      refused(Towns::rich, OTHER_KIND, x -> x.shift(RICH_SHORTS, 0, RICH_LONGS, 0, LOW));
    });
  }

  /** rich(), and of its shorts three more on shelf 5. */
  private static int threeMore(PaidElsewhere x) { return Towns.rich(x) + x.row(5, SHORTS, 3); }

  private static void shiftPlaces() {
    edge(34, "-13 a place that is not there", () -> {
      // i, j, n: of shelf 0 with five places to shelf 5 with three
      int[][] places = {{-1, 0, 1}, {0, -1, 1}, {-1, 0, 0}, {0, -1, 0}, {5, 0, 1}, {6, 0, 0}, {0, 3, 1}, {0, 4, 0}, {3, 0, 3},
          {2, 1, 3}, {0, 0, 4}, {0, 0, 6}, {LOW, 0, 1}, {0, LOW, 1}, {HIGH, 0, 1}, {0, HIGH, 1}, {HIGH, 0, HIGH}, {0, 1, HIGH},
          {1, 0, HIGH}, {HIGH, HIGH, 0}, {LOW, LOW, LOW}};
      for (int[] one : places) {
        refused(EdgesShelvesTest::threeMore, NO_PLACE, x -> x.shift(RICH_SHORTS, one[0], 5, one[1], one[2]));
      }
      for (int[] one : new int[][] {{0, 1, 5}, {1, 0, 5}, {0, 0, 6}, {5, 0, 1}, {0, 5, 1}}) {
        refused(EdgesShelvesTest::threeMore, NO_PLACE, x -> x.shift(RICH_SHORTS, one[0], RICH_SHORTS, one[1], one[2]));
      }
    });
    edge(34, "BAD, -11 (either), -12 (no ROWS, or of unlike sorts), -13.", () -> {
      // of n below 0 the promise names no size, so there are no such places
      for (int n : new int[] {-1, -2, LOW}) {
        refused(EdgesShelvesTest::threeMore, NO_PLACE, x -> x.shift(RICH_SHORTS, 0, 5, 0, n));
        refused(EdgesShelvesTest::threeMore, NO_PLACE, x -> x.shift(RICH_SHORTS, 2, RICH_SHORTS, 2, n));
      }
    });
  }

  private static void taken() {
    edge(35, "taken for a WINDOW of KIND k (0 .. 7), or under it: its KIND. BAD, -11, -12.", () -> {
      // by KIND those that it is, or is under
      int[][] over = {{0}, {0, 1}, {0, 2}, {0, 1, 3}, {0, 2, 4}, {0, 5}, {0, 6}, {0, 2, 4, 7}};
      for (int kind = 0; kind < 8; kind++) {
        PaidElsewhere x = new PaidElsewhere();
        x.body(kind);
        x.keep(3, 0);
        for (int k = 0; k < 8; k++) {
          boolean is = false;
          for (int one : over[kind]) is |= one == k;
          due(x.taken(3, k), is ? kind : OTHER_KIND);
        }
      }
    });
    edge(35, "taken for a WINDOW of KIND k (0 .. 7), or under it: its KIND. BAD, -11, -12.", () -> {
      for (int shelf : NO_SHELF) refused(Towns::rich, BAD, x -> x.taken(shelf, 0));
      for (int shelf : new int[] {RICH_SHORTS, RICH_BODY, RICH_NONE, RICH_NOTHING}) {
        for (int k : new int[] {-1, 8, LOW, HIGH}) refused(Towns::rich, BAD, x -> x.taken(shelf, k));
      }
      for (int k = 0; k < 8; k++) {
        int of = k;
        refused(Towns::rich, NOTHING, x -> x.taken(RICH_NOTHING, of));
        for (int shelf : new int[] {RICH_SHORTS, RICH_BYTES, RICH_LONGS, RICH_NONE}) {
          refused(Towns::rich, OTHER_KIND, x -> x.taken(shelf, of));
        }
      }
      refused(Towns::rich, OTHER_KIND, x -> x.taken(RICH_BODY, 2));
    });
  }

  private static void count() {
    edge(36, "How many: 0 STREETS, 1 WINDOWS, 2 PLAYERS, 3 bytes on THE TAPE, 4 changes that may be UNDONE, 5 BODIES", () -> {
      int[] none = {0, 0, 0, 0, 0, 0, 0}, full = {6, 30, 8, 119, 40, 50, 12};
      PaidElsewhere x = new PaidElsewhere();
      for (int what = 0; what < 7; what++) due(x.count(what), none[what]);
      Towns.full(x);
      for (int i = 1; i <= 41; i++) x.mend(0, 2, i);
      x.act(7, 3, 1);
      for (int what = 0; what < 7; what++) due(x.count(what), full[what]);
      x.feed(1, 'z');
      due(x.count(3), 120);
      x.undo();
      due(x.count(4), 39);
      x.redo();
      due(x.count(4), 40);
    });
    edge(36, "6 bodies that ran in the latest act() (all, kept or not)", () -> {
      PaidElsewhere x = new PaidElsewhere();
      due(x.count(6), 0);
      x.body(7);
      due(x.count(6), 0);
      x.act(0, 3, 1);
      due(x.count(6), 12);
      x.act(0, 0, 1);
      due(x.count(6), 1);
      x.act(1, 0, 1);
      due(x.count(6), 0);
    });
    edge(36, "kept or not). BAD.", () -> {
      for (int what : new int[] {-1, 7, 8, LOW, HIGH}) refused(Towns::rich, BAD, x -> x.count(what));
    });
  }
}
