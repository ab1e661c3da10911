/** The edges of promises 27 to 29: bodies, acts, the trace. */
public final class EdgesActsTest {
  private static final int BAD = Edges.BAD, FULL = Edges.FULL, LOW = Edges.LOW, HIGH = Edges.HIGH;
  private static final int WAITS = 0, PAYS = 1, HEARS = 2, TELLS = 3;
  private static final int WINDOW = 0, WAIT = 1, PAY = 2, NEVER = 3, FUND = 4, FETCH = 5, TOLD = 6, STANDING = 7;

  public static void main(String[] args) {
    bodies();
    actNone();
    actOwn();
    actAbove();
    actWraps();
    traceEdges();
    traceOrder();
    traceLatest();
    Edges.end(27, 29);
  }

  private static void edge(int promise, String sentence, Edges.Case it) { Edges.edge(promise, sentence, it); }
  private static void due(long got, long want) { Edges.due(got, want); }
  private static void refused(Edges.Setup setup, long want, Edges.Call call) { Edges.refused(setup, want, call); }

  /** Fifty bodies, of KINDS 0 to 7 by turns: body 8 i + k is of KIND k. */
  private static PaidElsewhere fifty() {
    PaidElsewhere x = new PaidElsewhere();
    for (int i = 0; i < 50; i++) x.body(i % 8);
    return x;
  }

  private static void bodies() {
    edge(27, "BODIES 0 .. 49, of KINDS", () -> {
      PaidElsewhere x = new PaidElsewhere();
      for (int i = 0; i < 50; i++) {
        due(x.body(7 - i % 8), i);
        due(x.count(5), i + 1);
      }
      due(x.body(0), FULL);
      due(x.count(5), 50);
      refused(Towns::full, FULL, y -> y.body(0));
      refused(Towns::full, FULL, y -> y.body(7));
    });
    edge(27, "A WINDOW of a KIND (0 .. 7) is kept: its number. BAD, FULL.", () -> {
      for (int kind : new int[] {-1, 8, 100, LOW, HIGH}) refused(Towns::rich, BAD, x -> x.body(kind));
      for (int kind = 0; kind < 8; kind++) {
        PaidElsewhere x = new PaidElsewhere();
        due(x.body(kind), 0);
        due(x.keep(0, 0), 1);
        due(x.taken(0, 0), kind);
      }
    });
    edge(27, "Answers, of several the one named first: BAD (-1)", () -> {
      refused(Towns::full, BAD, x -> x.body(-1));
      refused(Towns::full, BAD, x -> x.body(8));
    });
    edge(27, "WINDOWS' ways are kept by call as BODIES 0 .. 49", () -> {
      // they are not the windows of streets: neither counts as the other
      PaidElsewhere x = Towns.streets(0);
      due(x.body(0), 0);
      due(x.count(1), 0);
      due(x.window(0, 0), 0);
      due(x.count(5), 1);
      due(x.act(1, 0, 1), 0);
    });
  }

  private static void isNone(PaidElsewhere x, int body, int act) {
    due(x.act(WINDOW, TELLS, 5), 9);
    due(x.count(6), 4);
    due(x.act(body, act, 5), 0);
    due(x.count(6), 0);
    due(x.trace(0), BAD);
  }

  private static void actNone() {
    edge(28, "0, and no TRACE then: no such WINDOW, ACT.", () -> {
      PaidElsewhere x = new PaidElsewhere();
      for (int i = 0; i < 3; i++) x.body(0);
      for (int body : new int[] {-1, 3, 50, LOW, HIGH}) for (int act = 0; act < 4; act++) isNone(x, body, act);
      for (int act : new int[] {-1, 4, LOW, HIGH}) for (int body = 0; body < 3; body++) isNone(x, body, act);
      isNone(x, 3, 4);
      PaidElsewhere y = fifty();
      isNone(y, 50, 0);
      due(y.act(49, WAITS, 5), 54 + 3);
    });
    edge(28, "0, and no TRACE then: no such WINDOW, ACT.", () -> {
      // an act that answers 0 for its own reasons has its trace
      PaidElsewhere x = new PaidElsewhere();
      x.body(0);
      due(x.act(0, WAITS, 0), 0);
      due(x.count(6), 1);
      due(x.trace(0), 1);
    });
  }

  private static void actOwn() {
    edge(28, "An ACT (0 .. 3) of a WINDOW with x.", () -> {
      int[] due = {0, 5, 10, 5, 9, 0};
      PaidElsewhere x = fifty();
      for (int act = -1; act <= 4; act++) {
        due(x.act(WINDOW, act, 5), due[act + 1]);
        due(x.count(6) > 0 ? 1 : 0, act >= 0 && act <= 3 ? 1 : 0);
      }
    });
    edge(28, "n its number", () -> {
      // the least and the last number: bodies 0 and 48 are WINDOWS, 49 is a WAIT
      PaidElsewhere x = fifty();
      due(x.act(0, WAITS, 7), 7);
      due(x.act(48, WAITS, 7), 55);
      due(x.act(48, HEARS, 7), 7 ^ 48);
      due(x.act(48, PAYS, -48), 0);
      due(x.act(49, WAITS, -49), 3);
    });
    edge(28, "the body of its own KIND, or of the next KIND above that has one", () -> {
      // by KIND, where n is the KIND, waits(5), pays(5), hears(5), tells(5)
      int[][] due = {{5, 10, 5, 9}, {9, 18, 4, 18}, {7, -14, 7, -17}, {12, 24, 18, 18}, {9, -18, -5, -17}, {10, 20, 0, 21},
          {22, 44, 3, 37}, {12, -28, -7, -26}};
      PaidElsewhere x = fifty();
      for (int kind = 0; kind < 8; kind++) for (int act = 0; act < 4; act++) due(x.act(kind, act, 5), due[kind][act]);
    });
  }

  private static void isTrace(PaidElsewhere x, int body, int act, int... bodies) {
    x.act(body, act, 5);
    due(x.count(6), bodies.length);
    for (int i = 0; i < bodies.length; i++) due(x.trace(i), bodies[i]);
    due(x.trace(bodies.length), BAD);
  }

  private static void actAbove() {
    edge(28, "super: from the KIND above the body's on", () -> {
      // from the KIND above the body that says super, not above the acting one: STANDING's pays to PAY's, not FUND's
      PaidElsewhere x = fifty();
      isTrace(x, STANDING, PAYS, 80, 30, 10, 1, 50, 11, 1);
      isTrace(x, FUND, PAYS, 30, 10, 1);
      isTrace(x, NEVER, WAITS, 41, 20, 1);
      isTrace(x, NEVER, HEARS, 40, 11);
      isTrace(x, FETCH, TELLS, 60, 2, 10, 1, 11);
    });
    edge(28, "waits(..) and so on: the body of its own KIND, or of the next KIND above that has one", () -> {
      // though a body of WINDOW says waits(..), it is the acting one's: WAIT's, TOLD's
      PaidElsewhere x = fifty();
      isTrace(x, WAIT, PAYS, 10, 20, 1);
      isTrace(x, TOLD, PAYS, 10, 70, 1);
      isTrace(x, PAY, WAITS, 1);
      isTrace(x, STANDING, WAITS, 1);
      isTrace(x, STANDING, HEARS, 50, 11, 1);
      isTrace(x, WAIT, HEARS, 11);
    });
  }

  private static void actWraps() {
    edge(28, "ACTS with x (an int that wraps)", () -> {
      PaidElsewhere x = fifty();
      due(x.act(WAIT, WAITS, HIGH), LOW + 3);
      due(x.act(8, WAITS, HIGH), LOW + 7);
      due(x.act(WINDOW, PAYS, 1 << 30), LOW);
      due(x.act(WINDOW, PAYS, LOW), 0);
      due(x.act(WINDOW, PAYS, HIGH), -2);
      due(x.act(WINDOW, WAITS, LOW), LOW);
      due(x.act(WINDOW, HEARS, LOW), LOW);
      due(x.act(WINDOW, TELLS, 1 << 30), HIGH);
    });
    edge(28, "ACTS with x (an int that wraps)", () -> {
      PaidElsewhere x = fifty();
      // the least int is its own opposite; three times HIGH - 3 wraps; x + 1 of HIGH is LOW
      due(x.act(PAY, PAYS, (1 << 30) - 2), LOW);
      due(x.act(NEVER, HEARS, HIGH), (int) (3L * (HIGH ^ 3)));
      due(x.act(NEVER, WAITS, HIGH), LOW + 6);
      due(x.act(TOLD, WAITS, HIGH), (int) (2L * (HIGH + 6L)));
      due(x.act(FUND, HEARS, LOW + 4), LOW - 6);
      due(x.act(STANDING, TELLS, HIGH), (int) (-2L * (HIGH + 7L) + (5 - 9) - (6 - 9) - 1));
    });
  }

  private static void traceEdges() {
    edge(29, "THE TRACE's i-th body. BAD.", () -> {
      for (int i : new int[] {-1, 12, 24, LOW, HIGH}) refused(Towns::rich, BAD, x -> x.trace(i));
      refused(Towns::nothing, BAD, x -> x.trace(0));
      PaidElsewhere x = fifty();
      due(x.trace(0), BAD);
      x.act(STANDING, TELLS, 1);
      due(x.trace(0), 81);
      due(x.trace(11), 1);
    });
    edge(29, "the first 24 are kept", () -> {
      // no act runs more than the 12 of a STANDING that tells, so each of them is kept, and none behind them
      PaidElsewhere x = fifty();
      int most = 0;
      for (int kind = 0; kind < 8; kind++) {
        for (int act = 0; act < 4; act++) {
          x.act(kind, act, 5);
          int ran = x.count(6);
          most = Math.max(most, ran);
          due(x.trace(ran - 1) > 0 ? 1 : 0, 1);
          due(x.trace(ran), BAD);
        }
      }
      due(most, 12);
    });
  }

  private static void traceOrder() {
    edge(29, "numbers of the bodies that ran in the latest act(), as they began", () -> {
      PaidElsewhere x = fifty();
      isTrace(x, WINDOW, WAITS, 1);
      isTrace(x, WINDOW, TELLS, 2, 10, 1, 11);
      isTrace(x, STANDING, TELLS, 81, 2, 80, 30, 10, 1, 50, 11, 1, 50, 11, 1);
      isTrace(x, NEVER, TELLS, 2, 10, 41, 20, 1, 40, 11);
      isTrace(x, FUND, TELLS, 2, 30, 10, 1, 50, 11, 1);
      isTrace(x, TOLD, TELLS, 2, 10, 70, 1, 11);
      isTrace(x, WAIT, TELLS, 2, 10, 20, 1, 11);
      isTrace(x, PAY, TELLS, 2, 30, 10, 1, 11);
    });
  }

  private static void traceLatest() {
    edge(29, "numbers of the bodies that ran in the latest act()", () -> {
      // a short act behind a long one leaves nothing of it, and other calls leave it as it is
      PaidElsewhere x = fifty();
      x.act(STANDING, TELLS, 1);
      x.act(WINDOW, WAITS, 1);
      due(x.count(6), 1);
      due(x.trace(0), 1);
      due(x.trace(1), BAD);
      x.body(8);
      x.keep(0, 7);
      x.weeks(1, 1);
      due(x.count(6), 1);
      due(x.trace(0), 1);
    });
  }
}
