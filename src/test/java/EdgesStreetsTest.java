/** The edges of promises 1 to 8: a new object, streets, windows, players. */
public final class EdgesStreetsTest {
  private static final int BAD = Edges.BAD, FULL = Edges.FULL, VOID = Edges.VOID, LOW = Edges.LOW, HIGH = Edges.HIGH;
  /** Neither 0 .. 99 nor near it. */
  private static final int[] NOT_0_TO_99 = {-1, 100, -100, LOW, HIGH};

  public static void main(String[] args) {
    newObject();
    answers();
    allRefused();
    street();
    window();
    windowsRefused();
    windowsEnd();
    windowsNotSo();
    player();
    mend();
    pay();
    ofRefused();
    ofTold();
    Edges.end(1, 8);
  }

  private static void edge(int promise, String sentence, Edges.Case it) { Edges.edge(promise, sentence, it); }
  private static void due(long got, long want) { Edges.due(got, want); }
  private static void refused(Edges.Setup setup, long want, Edges.Call call) { Edges.refused(setup, want, call); }
  private static int tp(int tune, int purse) { return Towns.tp(tune, purse); }

  private static void newObject() {
    edge(1, "No streets, nobody.", () -> {
      PaidElsewhere x = new PaidElsewhere();
      for (int what = 0; what <= 6; what++) due(x.count(what), 0);
      for (int what = 0; what <= 23; what++) due(x.of(0, what), VOID);
      for (int what = 0; what <= 4; what++) due(x.week(0, what), VOID);
      due(x.harm(0), VOID);
      due(x.once(0, 1), VOID);
      due(x.fetch(0), BAD);
      due(x.judge(), Edges.NOT);
    });
    edge(1, "No streets, nobody.", () -> {
      PaidElsewhere x = new PaidElsewhere();
      due(x.undo(), Edges.STATE);
      due(x.redo(), Edges.STATE);
      due(x.trace(0), BAD);
      due(x.act(0, 0, 1), 0);
      due(x.weeks(60, 1), 0);
      due(x.law(), -100);
    });
    edge(1, "SHELVES 0 .. 5 each hold nothing (at first)", () -> {
      PaidElsewhere x = new PaidElsewhere();
      for (int shelf = 0; shelf < 6; shelf++) {
        due(x.taken(shelf, 0), Edges.NOTHING);
        due(x.put(shelf, 0, 1), Edges.NOTHING);
      }
    });
    edge(1, "All memory is the class's own.", () -> {
      PaidElsewhere x = new PaidElsewhere(), y = new PaidElsewhere();
      Towns.full(x);
      x.weeks(3, 1);
      x.mend(0, 0, 77);
      x.act(7, 3, 1);
      x.row(0, 0, 9);
      for (int what = 0; what <= 6; what++) due(y.count(what), 0);
      due(y.undo(), Edges.STATE);
      due(y.taken(0, 0), Edges.NOTHING);
      due(y.street(1, 2), 0);
      due(y.of(0, 23), 0);
      due(x.of(0, 23), 5);
    });
  }

  private static void answers() {
    edge(1, "An object is used for at most 512 calls after it has been made", () -> {
      PaidElsewhere x = new PaidElsewhere();
      x.street(5, 6);
      x.window(0, tp(0, 0));
      for (int call = 3; call < 511; call++) due(x.mend(0, 0, call % 100), call == 3 ? 0 : (call - 1) % 100);
      due(x.undo(), 39);
      due(x.of(0, 11), 509 % 100);
    });
    edge(1, "BAD = -1, NOT = -2, FULL = -3, STATE = -5, VOID = -2000000000", () -> {
      due(PaidElsewhere.BAD, -1);
      due(PaidElsewhere.NOT, -2);
      due(PaidElsewhere.FULL, -3);
      due(PaidElsewhere.STATE, -5);
      due(PaidElsewhere.VOID, -2000000000);
    });
  }

  /** A call of each sort that must be refused on rich(), and does nothing there. */
  private static final Edges.Call[] REFUSED = {
    x -> x.street(100, 0), x -> x.window(200, 0), x -> x.windows(6, 0, 1), x -> x.windows(1, 0, 1), x -> x.player(1100, 0, 0),
    x -> x.mend(0, 3, 1), x -> x.pay(0, 500), x -> x.of(0, 4), x -> x.harm(3), x -> x.once(0, 4), x -> x.waiting(0, 100, 1, 10),
    x -> x.exactly(0, 1, 61), x -> x.feed(5, 1), x -> x.weeks(61, 1), x -> x.week(9, 0), x -> x.best(0, 61, 0),
    x -> x.called(0, 0), x -> x.off(2, 1), x -> x.fund(0, 10000, 0), x -> x.fetch(2), x -> x.worse(30), x -> x.lovers(0, 2),
    x -> x.body(8), x -> x.trace(12), x -> x.keep(0, 3), x -> x.row(0, 5, 1), x -> x.row(0, 1, -1), x -> x.put(0, 5, 1),
    x -> x.put(1, 0, 1), x -> x.put(5, 0, 1), x -> x.element(0, 5), x -> x.shift(0, 0, 2, 0, 1), x -> x.shift(0, 0, 0, 1, 5),
    x -> x.taken(5, 0), x -> x.taken(1, 8), x -> x.count(7),
  };

  private static void allRefused() {
    edge(1, "What is answered so changes nothing.", () -> {
      // each of them twice, one behind the other
      refused(Towns::rich, 0, x -> {
        long answered = 0;
        for (Edges.Call call : REFUSED) answered = Math.max(answered, Math.max(call.on(x), call.on(x)));
        return answered < 0 ? 0 : answered;
      });
    });
  }

  private static void street() {
    edge(2, "STREETS 0 .. 5, as they come", () -> {
      PaidElsewhere x = new PaidElsewhere();
      for (int k = 0; k < 6; k++) {
        due(x.street(10 + k, 20 + k), k);
        due(x.count(0), k + 1);
      }
      for (int k = 0; k < 6; k++) {
        due(x.of(k, 20), 10 + k);
        due(x.of(k, 21), 20 + k);
      }
      due(x.of(6, 20), VOID);
    });
    edge(2, "a TAKE (0 .. 99: what a WEEK of playing brings there)", () -> {
      for (int take : new int[] {0, 1, 98, 99}) due(Towns.streets(take).of(0, 20), take);
      for (int take : NOT_0_TO_99) refused(Towns::rich, BAD, x -> x.street(take, 0));
    });
    edge(2, "a LAW of quiet (0 .. 99: what fetching a constable costs; 0: none)", () -> {
      for (int law : new int[] {0, 1, 98, 99}) {
        PaidElsewhere x = new PaidElsewhere();
        due(x.street(0, law), 0);
        due(x.of(0, 21), law);
      }
      for (int law : NOT_0_TO_99) refused(Towns::rich, BAD, x -> x.street(0, law));
    });
    edge(2, "A STREET: its number. BAD, FULL.", () -> {
      refused(Towns::full, FULL, x -> x.street(0, 0));
      refused(Towns::full, FULL, x -> x.street(99, 99));
    });
    edge(2, "Answers, of several the one named first: BAD (-1)", () -> {
      refused(Towns::full, BAD, x -> x.street(100, 0));
      refused(Towns::full, BAD, x -> x.street(0, -1));
    });
    edge(2, "0, 0 at first", () -> due(Towns.streets(9).of(0, 22), 0));
  }

  private static void window() {
    edge(3, "WINDOWS 0 .. 29, as they come", () -> {
      PaidElsewhere x = Towns.streets(0, 0, 0);
      for (int w = 0; w < 30; w++) {
        due(x.window(100 * (w % 3) + w, tp(w - 15, 9 * w)), w);
        due(x.count(1), w + 1);
      }
      for (int w = 0; w < 30; w++) {
        due(x.of(w, 10), w % 3);
        due(x.of(w, 11), w);
        due(x.of(w, 12), w - 15);
        due(x.of(w, 13), 9 * w);
      }
      due(x.of(30, 10), VOID);
    });
    edge(3, "sq: 100 times the STREET, and QUIET", () -> {
      PaidElsewhere x = Towns.streets(0, 0);
      due(x.window(0, 0), 0);
      due(x.window(99, 0), 1);
      due(x.window(100, 0), 2);
      due(x.window(199, 0), 3);
      int[] street = {0, 0, 1, 1}, quiet = {0, 99, 0, 99};
      for (int w = 0; w < 4; w++) {
        due(x.of(w, 10), street[w]);
        due(x.of(w, 11), quiet[w]);
      }
      // rich() has streets 0 and 1 alone
      for (int sq : new int[] {200, 299, 599, 600, -1, -99, -100, LOW, HIGH}) {
        refused(Towns::rich, BAD, y -> y.window(sq, tp(0, 0)));
      }
      refused(Towns::nothing, BAD, y -> y.window(0, tp(0, 0)));
    });
    edge(3, "QUIET (0 .. 99: worth of a WEEK of quiet)", () -> {
      for (int quiet = 0; quiet < 100; quiet++) {
        PaidElsewhere x = Towns.streets(0);
        due(x.window(quiet, tp(0, 0)), 0);
        due(x.of(0, 11), quiet);
      }
      // one more is the QUIET 0 of the next street, one less is none
      refused(Towns::nothing, BAD, x -> x.window(100, tp(0, 0)));
      due(Towns.streets(0).window(100, tp(0, 0)), BAD);
      due(Towns.streets(0).window(-1, tp(0, 0)), BAD);
    });
    edge(3, "TUNE (-99 .. 99: worth of a WEEK of a tune, times how good it is by 10)", () -> {
      PaidElsewhere x = Towns.streets(0);
      due(x.window(0, 0), 0);
      due(x.window(0, 198000), 1);
      due(x.window(0, 99000), 2);
      due(x.of(0, 12), -99);
      due(x.of(1, 12), 99);
      due(x.of(2, 12), 0);
      for (int tp : new int[] {-1, -1000, 199000, 199999, LOW, HIGH}) refused(Towns::rich, BAD, y -> y.window(0, tp));
    });
    edge(3, "PURSE (0 .. 999)", () -> {
      PaidElsewhere x = Towns.streets(0);
      due(x.window(0, 999), 0);
      due(x.window(0, 1000), 1);
      due(x.window(0, 198999), 2);
      int[] tune = {-99, -98, 99}, purse = {999, 0, 999};
      for (int w = 0; w < 3; w++) {
        due(x.of(w, 12), tune[w]);
        due(x.of(w, 13), purse[w]);
      }
    });
    edge(3, "A WINDOW: its number.", () -> {
      refused(Towns::full, FULL, x -> x.window(0, 0));
      refused(Towns::full, FULL, x -> x.window(599, 198999));
    });
    edge(3, "Answers, of several the one named first: BAD (-1)", () -> {
      refused(Towns::full, BAD, x -> x.window(600, 0));
      refused(Towns::full, BAD, x -> x.window(-1, 0));
      refused(Towns::full, BAD, x -> x.window(0, 199000));
      refused(Towns::full, BAD, x -> x.window(0, -1));
    });
  }

  /** A row of shorts on a shelf. */
  private static void told(PaidElsewhere x, int shelf, int... row) {
    x.row(shelf, 1, row.length);
    for (int i = 0; i < row.length; i++) x.put(shelf, i, row[i]);
  }

  private static void windowsRefused() {
    edge(4, "WINDOWS FROM A ROW on a SHELF, from place i on", () -> {
      for (int shelf : new int[] {-1, 6, LOW, HIGH}) refused(Towns::rich, BAD, x -> x.windows(shelf, 0, 1));
    });
    edge(4, "n (1 .. 15) of them: how many came", () -> {
      for (int n : new int[] {0, -1, 16, 100, LOW, HIGH}) refused(Towns::rich, BAD, x -> x.windows(0, 0, n));
      PaidElsewhere x = Towns.streets(0);
      x.row(0, 1, 60);
      due(x.windows(0, 0, 1), 1);
      due(x.count(1), 1);
      due(x.windows(0, 0, 14), 14);
      due(x.count(1), 15);
      due(x.windows(0, 0, 15), 15);
      due(x.count(1), 30);
    });
    edge(4, "-12 (no ROW of shorts; a SHELF that holds nothing is missing)", () -> {
      for (int sort : new int[] {0, 2, 3, 4}) {
        for (int size : new int[] {0, 60}) {
          for (int i : new int[] {0, -1, 61, LOW, HIGH}) {
            refused(x -> x.row(5, sort, size) + Towns.rich(x), Edges.OTHER_KIND, x -> x.windows(5, i, 1));
          }
        }
      }
      // shelf 1 of rich() holds a WINDOW
      for (int i : new int[] {0, -1, LOW, HIGH}) refused(Towns::rich, Edges.OTHER_KIND, x -> x.windows(1, i, 15));
    });
    edge(4, "Answers, of several the one named first: BAD (-1)", () -> {
      refused(Towns::rich, BAD, x -> x.windows(1, 0, 0));
      refused(Towns::rich, BAD, x -> x.windows(1, 0, 16));
      refused(Towns::rich, BAD, x -> x.windows(5, 0, 16));
    });
    edge(4, "it ends where the row is missing", () -> {
      for (int i : new int[] {0, 1, 60, -1, LOW, HIGH}) refused(Towns::rich, 0, x -> x.windows(5, i, 15));
      refused(Towns::nothing, 0, x -> x.windows(0, 0, 1));
    });
  }

  private static void windowsEnd() {
    edge(4, "ends (within a four, too)", () -> {
      // of a row of size s from place i on as many fours come as lie in it whole
      for (int size = 0; size <= 13; size++) {
        for (int i = 0; i <= 14; i++) {
          PaidElsewhere x = Towns.streets(0);
          x.row(0, 1, size);
          int whole = i > size ? 0 : (size - i) / 4;
          due(x.windows(0, i, 15), whole);
          due(x.count(1), whole);
        }
      }
    });
    edge(4, "ends (within a four, too)", () -> {
      // a place that is not there: the row has ended
      for (int i : new int[] {5, 60, 61, HIGH, HIGH - 3, -1, -4, LOW, LOW + 3}) {
        refused(Towns::rich, 0, x -> x.windows(0, i, 1));
        refused(Towns::rich, 0, x -> x.windows(0, i, 15));
      }
    });
    edge(4, "or WINDOWS are FULL: those ahead came", () -> {
      PaidElsewhere x = Towns.streets(0);
      for (int w = 0; w < 28; w++) x.window(0, 0);
      told(x, 0, 0, 5, 6, 7, 0, 8, 9, 10, 0, 11, 12, 13);
      due(x.windows(0, 0, 3), 2);
      due(x.count(1), 30);
      due(x.of(28, 13), 7);
      due(x.of(29, 13), 10);
      due(x.windows(0, 0, 3), 0);
      refused(y -> Towns.full(y) + y.row(0, 1, 60), 0, y -> y.windows(0, 0, 15));
    });
    edge(4, "by fours STREET, QUIET, TUNE, PURSE", () -> {
      PaidElsewhere x = Towns.streets(0, 0);
      told(x, 3, 9, 1, 2, 3, 4, 0, 99, -99, 999, 1);
      due(x.windows(3, 1, 15), 2);
      int[] due = {1, 2, 3, 4, 0, 99, -99, 999};
      for (int i = 0; i < 8; i++) due(x.of(i / 4, 10 + i % 4), due[i]);
      // the row is as it was
      for (int i = 0; i < 8; i++) due(x.element(3, 1 + i), due[i]);
    });
  }

  private static void windowsNotSo() {
    edge(4, "one is not so", () -> {
      int[][] notSo = {{2, 0, 0, 0}, {-1, 0, 0, 0}, {5, 0, 0, 0}, {0, -1, 0, 0}, {0, 100, 0, 0}, {0, 0, -100, 0},
          {0, 0, 100, 0}, {0, 0, 0, -1}, {0, 0, 0, 1000}, {32767, 0, 0, 0}, {0, -32768, 0, 0}};
      for (int[] four : notSo) {
        PaidElsewhere x = Towns.streets(0, 0);
        told(x, 0, 1, 50, 51, 52, four[0], four[1], four[2], four[3], 1, 60, 61, 62);
        due(x.windows(0, 0, 3), 1);
        due(x.count(1), 1);
        due(x.of(0, 13), 52);
        due(x.windows(0, 4, 2), 0);
        due(x.count(1), 1);
        due(x.windows(0, 8, 1), 1);
        due(x.of(1, 11), 60);
      }
    });
    edge(4, "one is not so", () -> {
      // what is at the edge is so still
      PaidElsewhere x = Towns.streets(0, 0);
      int[] row = {0, 0, -99, 0, 1, 99, 99, 999, 1, 0, 99, 999, 0, 99, -99, 0};
      told(x, 0, row);
      due(x.windows(0, 0, 15), 4);
      for (int i = 0; i < row.length; i++) due(x.of(i / 4, 10 + i % 4), row[i]);
    });
    edge(4, "one is not so", () -> {
      // no street at all: no window is so
      refused(x -> x.row(0, 1, 8), 0, x -> x.windows(0, 0, 2));
    });
    edge(4, "what is put in keeps its lowest bits", () -> {
      // so a STREET of 65537 is 1
      PaidElsewhere x = Towns.streets(0, 0);
      told(x, 0, 65537, 65536 + 7, -65536 - 99, 65536 * 3 + 999);
      due(x.windows(0, 0, 1), 1);
      int[] due = {1, 7, -99, 999};
      for (int i = 0; i < 4; i++) due(x.of(0, 10 + i), due[i]);
    });
  }

  private static void player() {
    edge(5, "PLAYERS 0 .. 7, as they come", () -> {
      PaidElsewhere x = Towns.streets(0, 0);
      for (int p = 0; p < 8; p++) {
        due(x.player(100 * p + 11 * p, 12 * p, p % 3 - 1), p);
        due(x.count(2), p + 1);
      }
      for (int p = 0; p < 8; p++) {
        due(x.of(p, 0), p);
        due(x.of(p, 1), 11 * p);
        due(x.of(p, 2), 12 * p);
        due(x.of(p, 3), p % 3 - 1);
      }
      due(x.of(8, 0), VOID);
    });
    edge(5, "GOOD (0 .. 10), COST of a WEEK (0 .. 99)", () -> {
      int[] gc = {0, 99, 100, 999, 1000, 1099}, good = {0, 0, 1, 9, 10, 10}, cost = {0, 99, 0, 99, 0, 99};
      for (int i = 0; i < gc.length; i++) {
        PaidElsewhere x = new PaidElsewhere();
        due(x.player(gc[i], 0, -1), 0);
        due(x.of(0, 0), good[i]);
        due(x.of(0, 1), cost[i]);
      }
      for (int bad : new int[] {-1, -100, 1100, 1199, LOW, HIGH}) refused(Towns::rich, BAD, x -> x.player(bad, 0, 0));
    });
    edge(5, "HEARS (0 .. 100 hundredths)", () -> {
      for (int hears : new int[] {0, 1, 99, 100}) {
        PaidElsewhere x = new PaidElsewhere();
        due(x.player(0, hears, -1), 0);
        due(x.of(0, 2), hears);
      }
      for (int bad : new int[] {-1, 101, LOW, HIGH}) refused(Towns::rich, BAD, x -> x.player(0, bad, 0));
    });
    edge(5, "at a STREET (-1: nowhere)", () -> {
      PaidElsewhere x = new PaidElsewhere();
      due(x.player(0, 0, -1), 0);
      due(x.of(0, 3), -1);
      refused(Towns::nothing, BAD, y -> y.player(0, 0, 0));
      x.street(0, 0);
      x.street(0, 0);
      due(x.player(0, 0, 1), 1);
      due(x.of(1, 3), 1);
      for (int bad : new int[] {-2, 2, 6, LOW, HIGH}) refused(Towns::rich, BAD, y -> y.player(0, 0, bad));
    });
    edge(5, "A PLAYER: its number. gc: 100 GOOD and COST. BAD, FULL.", () -> {
      refused(Towns::full, FULL, x -> x.player(0, 0, -1));
      refused(Towns::full, FULL, x -> x.player(1099, 100, 5));
    });
    edge(5, "Answers, of several the one named first: BAD (-1)", () -> {
      refused(Towns::full, BAD, x -> x.player(1100, 0, 0));
      refused(Towns::full, BAD, x -> x.player(0, 101, 0));
      refused(Towns::full, BAD, x -> x.player(0, 0, 6));
    });
  }

  private static void mend() {
    edge(6, "QUIET (what 0), TUNE (1) of a WINDOW, TAKE (2) of a STREET becomes v: what it was.", () -> {
      PaidElsewhere x = Towns.streets(5);
      x.window(20, tp(-3, 0));
      int[] what = {0, 1, 2}, first = {20, -3, 5}, least = {0, -99, 0}, place = {11, 12, 20};
      for (int i = 0; i < 3; i++) {
        due(x.mend(0, what[i], least[i]), first[i]);
        due(x.of(0, place[i]), least[i]);
        due(x.mend(0, what[i], 99), least[i]);
        due(x.of(0, place[i]), 99);
        due(x.mend(0, what[i], 99), 99);
      }
    });
    edge(6, "VOID: BAD.", () -> {
      // the numbers of rich(): windows 0 to 2, streets 0 and 1
      for (int what : new int[] {-1, 3, 4, LOW, HIGH}) refused(Towns::rich, VOID, x -> x.mend(0, what, 1));
      for (int number : new int[] {-1, 3, 30, LOW, HIGH}) {
        refused(Towns::rich, VOID, x -> x.mend(number, 0, 1));
        refused(Towns::rich, VOID, x -> x.mend(number, 1, 1));
      }
      for (int number : new int[] {-1, 2, 6, LOW, HIGH}) refused(Towns::rich, VOID, x -> x.mend(number, 2, 1));
      refused(Towns::full, VOID, x -> x.mend(30, 0, 1));
      refused(Towns::full, VOID, x -> x.mend(6, 2, 1));
    });
    edge(6, "VOID: BAD.", () -> {
      // v is no QUIET, TUNE, TAKE
      for (int v : NOT_0_TO_99) {
        refused(Towns::rich, VOID, x -> x.mend(0, 0, v));
        refused(Towns::rich, VOID, x -> x.mend(0, 2, v));
      }
      for (int v : new int[] {-100, 100, LOW, HIGH}) refused(Towns::rich, VOID, x -> x.mend(0, 1, v));
    });
    edge(6, "TUNE (-99 .. 99: worth of a WEEK of a tune, times how good it is by 10)", () -> {
      // a TUNE of -1 that was is told as -1, though that is BAD elsewhere
      PaidElsewhere x = Towns.streets(5);
      x.window(0, tp(0, 0));
      due(x.mend(0, 1, -1), 0);
      due(x.mend(0, 1, -2), -1);
      due(x.mend(0, 1, -99), -2);
      due(x.of(0, 12), -99);
    });
  }

  private static void pay() {
    edge(7, "(ws: 100 times the WAY, and the SUM) become that: what they were", () -> {
      PaidElsewhere x = Towns.streets(0, 0);
      int was = 0;
      for (int ws : new int[] {0, 99, 100, 199, 200, 299, 300, 399, 400, 499, 499, 0}) {
        due(x.pay(1, ws), was);
        due(x.of(1, 22), ws);
        was = ws;
      }
      due(x.of(0, 22), 0);
    });
    edge(7, "and a SUM s (0 .. 99); 0, 0 at first", () -> {
      for (int ws : new int[] {-1, -100, 500, 599, LOW, HIGH}) refused(Towns::rich, BAD, x -> x.pay(0, ws));
      due(Towns.streets(1).pay(0, 0), 0);
    });
    edge(7, "WAY and SUM of a STREET", () -> {
      for (int street : new int[] {-1, 2, 6, LOW, HIGH}) refused(Towns::rich, BAD, x -> x.pay(street, 0));
      refused(Towns::full, BAD, x -> x.pay(6, 0));
      refused(Towns::nothing, BAD, x -> x.pay(0, 0));
    });
  }

  private static void ofRefused() {
    edge(8, "VOID: BAD.", () -> {
      for (int what : new int[] {-1, 4, 5, 9, 14, 15, 19, 24, 25, 30, 100, LOW, HIGH}) {
        refused(Towns::rich, VOID, x -> x.of(0, what));
      }
    });
    edge(8, "VOID: BAD.", () -> {
      for (int what = 0; what < 4; what++) {
        int of = what;
        for (int number : new int[] {-1, 3, 8, LOW, HIGH}) refused(Towns::rich, VOID, x -> x.of(number, of));
        for (int number : new int[] {-1, 3, 30, LOW, HIGH}) refused(Towns::rich, VOID, x -> x.of(number, 10 + of));
        for (int number : new int[] {-1, 2, 6, LOW, HIGH}) refused(Towns::rich, VOID, x -> x.of(number, 20 + of));
        refused(Towns::full, VOID, x -> x.of(8, of));
        refused(Towns::full, VOID, x -> x.of(30, 10 + of));
        refused(Towns::full, VOID, x -> x.of(6, 20 + of));
      }
    });
  }

  private static void ofTold() {
    edge(8, "23 how many WINDOWS", () -> {
      PaidElsewhere x = Towns.streets(0, 0, 0);
      due(x.of(0, 23), 0);
      x.window(100, 0);
      for (int w = 1; w < 30; w++) x.window(200, 0);
      int[] howMany = {0, 1, 29};
      for (int k = 0; k < 3; k++) due(x.of(k, 23), howMany[k]);
    });
    edge(8, "22 WAY and SUM", () -> {
      PaidElsewhere x = Towns.streets(0);
      x.pay(0, 407);
      due(x.of(0, 22), 407);
      x.pay(0, 99);
      due(x.of(0, 22), 99);
    });
    edge(8, "0 GOOD, 1 COST, 2 HEARS, 3 its STREET", () -> {
      PaidElsewhere x = Towns.streets(0, 0);
      x.player(0, 0, -1);
      x.player(1099, 100, 1);
      int[] least = {0, 0, 0, -1}, most = {10, 99, 100, 1};
      for (int what = 0; what < 4; what++) {
        due(x.of(0, what), least[what]);
        due(x.of(1, what), most[what]);
      }
    });
  }
}
