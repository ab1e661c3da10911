/** The edges of promises 20 to 26: funds, the law of quiet, worse tunes, lovers, judging, undoing. */
public final class EdgesFundsTest {
  private static final int BAD = Edges.BAD, NOT = Edges.NOT, STATE = Edges.STATE, LOW = Edges.LOW, HIGH = Edges.HIGH;
  /** rich() has players 0 to 2 and streets 0 and 1. */
  private static final int[] NO_PAIR = {2, 9, 12, 22, 30, 31, 70, 80, 100, -1, -10, -11, LOW, HIGH};

  public static void main(String[] args) {
    parts();
    leftOver();
    holds();
    who();
    fundRefused();
    lastPair();
    fetch();
    worse();
    worseLeast();
    lovers();
    judge();
    undo();
    undoMany();
    redo();
    redoNoMore();
    Edges.end(20, 26);
  }

  private static void edge(int promise, String sentence, Edges.Case it) { Edges.edge(promise, sentence, it); }
  private static void due(long got, long want) { Edges.due(got, want); }
  private static void refused(Edges.Setup setup, long want, Edges.Call call) { Edges.refused(setup, want, call); }
  private static int tp(int tune, int purse) { return Towns.tp(tune, purse); }

  /** One street with windows of these HARMS (at least -99) and this PURSE, and player 0 of GOOD 10. */
  private static PaidElsewhere fund(int purse, int... harms) {
    PaidElsewhere x = Towns.streets(0);
    for (int harm : harms) {
      int quiet = Math.min(Math.max(harm, 0), 99);
      x.window(quiet, tp(quiet - harm, purse));
    }
    x.player(1000, 0, -1);
    return x;
  }

  private static void isShared(PaidElsewhere x, int sum, int... parts) {
    for (int i = 0; i < parts.length; i++) due(x.fund(0, sum, i), parts[i]);
  }

  private static void parts() {
    edge(20, "its WINDOWS pay parts of a SUM by HARM of a PLAYER (cut; those above 0): PART of each", () -> {
      isShared(fund(9, 1, 1), 2, 1, 1);
      isShared(fund(9, 10, 20, 30), 60, 10, 20, 30);
      isShared(fund(9, 10, 20, 30), 59, 11, 19, 29);
      isShared(fund(9, 0, -5, 3, -99), 7, 0, 0, 7, 0);
      isShared(fund(9, 1, 198), 198, 1, 197);
      isShared(fund(9, 198, 1), 198, 198, 0);
    });
    edge(20, "of a SUM (0 .. 9999)", () -> {
      isShared(fund(9, 10, 20, 30), 0, 0, 0, 0);
      isShared(fund(9, 10, 20, 30), 1, 1, 0, 0);
      isShared(fund(9, 10, 20, 30), 9999, 1667, 3333, 4999);
      for (int sum : new int[] {-1, 10000, LOW, HIGH}) {
        for (int i = -2; i < 2; i++) {
          int of = i;
          refused(Towns::rich, BAD, x -> x.fund(0, sum, of));
        }
      }
    });
    edge(20, "of a SUM (0 .. 9999)", () -> {
      // the most windows with the most HARM: 9999 by thirty is 333, and 9 are left over
      int[] harms = new int[30];
      java.util.Arrays.fill(harms, 198);
      PaidElsewhere x = fund(9, harms);
      due(x.fund(0, 9999, 0), 342);
      for (int i = 1; i < 30; i++) due(x.fund(0, 9999, i), 333);
      due(x.fund(0, 9999, -2), (1 << 30) - 1);
      due(x.fund(0, 9999, 30), BAD);
    });
  }

  private static void leftOver() {
    edge(20, "what is left over the first of them pays, too; without any all PARTS are 0", () -> {
      // the first of those with HARM above 0, not of all
      isShared(fund(9, 0, -3, 7, 7, 7), 10, 0, 0, 4, 3, 3);
      isShared(fund(9, 7, 0, 7, -3, 7), 11, 5, 0, 3, 0, 3);
      isShared(fund(9, 5), 9999, 9999);
    });
    edge(20, "what is left over the first of them pays, too; without any all PARTS are 0", () -> {
      for (int sum : new int[] {0, 1, 9999}) {
        isShared(fund(0, 0, -5, -99), sum, 0, 0, 0);
        due(fund(0, 0, -5, -99).fund(0, sum, -1), 1);
        due(fund(0, 0, -5, -99).fund(0, sum, -2), 0);
        due(fund(0).fund(0, sum, -1), 1);
        due(fund(0).fund(0, sum, -2), 0);
        due(fund(0).fund(0, sum, 0), BAD);
      }
    });
    edge(20, "PART of the i-th WINDOW of a STREET (by numbers)", () -> {
      // windows 1 and 4 of all are 0 and 1 of street 1
      PaidElsewhere x = Towns.streets(0, 0);
      for (int sq : new int[] {50, 103, 50, 50, 101}) x.window(sq, tp(0, 9));
      x.player(0, 0, -1);
      due(x.fund(1, 4, 0), 3);
      due(x.fund(1, 4, 1), 1);
      due(x.fund(1, 4, 2), BAD);
      due(x.fund(0, 3, 2), 1);
      due(x.fund(0, 3, 3), BAD);
    });
  }

  private static void holds() {
    edge(20, "HOLDS: whether none has a PART above its HARM or its PURSE", () -> {
      // HARM 10 each; a PART like HARM and PURSE holds, one more doesn't
      due(fund(999, 10, 10).fund(0, 20, -1), 1);
      due(fund(999, 10, 10).fund(0, 21, -1), 0);
      due(fund(10, 10, 10).fund(0, 20, -1), 1);
      due(fund(9, 10, 10).fund(0, 20, -1), 0);
      due(fund(9, 10, 10).fund(0, 18, -1), 1);
      due(fund(9, 10, 10).fund(0, 19, -1), 0);
      due(fund(0, 10, 10).fund(0, 0, -1), 1);
      due(fund(0, 10, 10).fund(0, 1, -1), 0);
    });
    edge(20, "HOLDS: whether none has a PART above its HARM or its PURSE", () -> {
      // one of them is enough, the last too
      PaidElsewhere x = Towns.streets(0);
      int[] purses = {50, 50, 4};
      for (int purse : purses) x.window(10, tp(0, purse));
      x.player(0, 0, -1);
      due(x.fund(0, 12, -1), 1);
      due(x.fund(0, 14, -1), 1);
      due(x.fund(0, 15, -1), 0);
      due(x.fund(0, 15, -2), 0);
    });
    edge(20, "PART of each", () -> {
      // who pays nothing, having no HARM above 0, is no hindrance
      due(fund(5, -40, 5, 0).fund(0, 5, -1), 1);
      due(fund(5, -40, 5, 0).fund(0, 5, -2), 0);
    });
  }

  private static void who() {
    edge(20, "WHO would not join: WINDOWS (in order; bits) whose PART is above HARM", () -> {
      due(fund(0, 10, 10).fund(0, 20, -2), 0);
      due(fund(0, 10, 10).fund(0, 21, -2), 1);
      due(fund(0, 10, 10).fund(0, 22, -2), 3);
      // without HARM above 0 a window keeps its bit, but pays nothing
      due(fund(0, -5, 10, 0, 10).fund(0, 21, -2), 2);
      due(fund(0, -5, 10, 0, 10).fund(0, 22, -2), 10);
      due(fund(0, 10, 10).fund(0, 0, -2), 0);
    });
    edge(20, "WHO would not join: WINDOWS (in order; bits) whose PART is above HARM", () -> {
      // the least HARM above 0 that there is
      due(fund(0, 1).fund(0, 1, -2), 0);
      due(fund(0, 1).fund(0, 2, -2), 1);
      due(fund(9, 1).fund(0, 2, -1), 0);
      // the bit is that of the place on the street: windows 1 and 3 of all
      PaidElsewhere x = Towns.streets(0, 0);
      for (int sq : new int[] {9, 105, 9, 105}) x.window(sq, tp(0, 9));
      x.player(0, 0, -1);
      due(x.fund(1, 11, -2), 1);
      due(x.fund(1, 12, -2), 3);
    });
  }

  private static void fundRefused() {
    edge(20, "(i -1): HOLDS (1, 0); (-2): WHO would not join, as bits.", () -> {
      // -3 is neither of them, 0 the first window, and the last one is one less than there are
      PaidElsewhere x = fund(5, 6, 4);
      int[] due = {BAD, 0, 0, 6, 4, BAD};
      for (int i = -3; i <= 2; i++) due(x.fund(0, 10, i), due[i + 3]);
      int[] more = {BAD, 3, 0, 8, 5, BAD};
      for (int i : new int[] {-3, -2, -1, 0, 1, 2}) due(x.fund(0, 13, i), more[i + 3]);
    });
    edge(20, "BAD (also none such).", () -> {
      // street 0 of rich() has windows 0 and 1 of its own, street 1 has one
      for (int i : new int[] {2, 3, 30, -3, -4, LOW, HIGH}) refused(Towns::rich, BAD, x -> x.fund(0, 5, i));
      for (int i : new int[] {1, 2}) refused(Towns::rich, BAD, x -> x.fund(1, 5, i));
      for (int ps : NO_PAIR) for (int i = -2; i < 1; i++) {
        int of = i;
        refused(Towns::rich, BAD, x -> x.fund(ps, 5, of));
      }
      for (int i = -2; i < 1; i++) {
        int of = i;
        refused(Towns::nothing, BAD, x -> x.fund(0, 5, of));
      }
    });
  }

  private static void lastPair() {
    edge(20, "(ps: 10 times the PLAYER, and the STREET)", () -> {
      PaidElsewhere x = new PaidElsewhere();
      Towns.lastPair(x);
      int[][] parts = {{75, 11, 10, 0}, {65, 0, 0, 0}, {5, 0, 0, 0}, {70, 11, 10, BAD}, {0, 11, 10, BAD}, {72, BAD, BAD, BAD}};
      for (int[] one : parts) for (int i = 0; i < 3; i++) due(x.fund(one[0], 21, i), one[1 + i]);
      due(x.fund(75, 18, -1), 1);
      due(x.fund(75, 20, -1), 0);
      due(x.fund(75, 22, -2), 3);
      due(x.fund(65, 22, -2), 0);
    });
    edge(21, "(ps: 10 times the PLAYER, and the STREET)", () -> {
      // street 5 asks 41 less 36 of player 7 alone; a street 0 without a LAW of quiet has none to fetch
      PaidElsewhere x = new PaidElsewhere();
      Towns.lastPair(x);
      int[] ps = {75, 65, 5, 70, 0}, bargain = {12, NOT, NOT, 5, 5}, fetch = {1, NOT, NOT, NOT, NOT};
      for (int i = 0; i < ps.length; i++) {
        due(x.once(ps[i], 3), bargain[i]);
        due(x.fetch(ps[i]), fetch[i]);
      }
    });
    edge(22, "(ps: 10 times the PLAYER, and the STREET)", () -> {
      PaidElsewhere x = new PaidElsewhere();
      Towns.lastPair(x);
      int[] ps = {75, 65, 5, 70, 0, 72}, worse = {10, NOT, NOT, 0, 0, NOT};
      for (int i = 0; i < ps.length; i++) due(x.worse(ps[i]), worse[i]);
    });
    edge(23, "(ps: 10 times the PLAYER, and the STREET)", () -> {
      PaidElsewhere x = new PaidElsewhere();
      Towns.lastPair(x);
      int[] ps = {75, 65, 5, 70, 0, 72}, love = {7, 0, 0, 0, 0, 0}, stay = {1, 0, 0, 0, 0, 0};
      for (int i = 0; i < ps.length; i++) {
        due(x.lovers(ps[i], 0), love[i]);
        due(x.lovers(ps[i], 1), stay[i]);
      }
    });
  }

  private static void fetch() {
    edge(21, "FETCH: whether the constable is cheaper than a BARGAIN (1, 0; NOT: no LAW of quiet, or no BARGAIN)", () -> {
      // a BARGAIN of 6: LEAST 1, MOST 11
      int[] law = {0, 1, 5, 6, 7, 99}, due = {NOT, 1, 1, 0, 0, 0};
      for (int i = 0; i < law.length; i++) {
        PaidElsewhere x = new PaidElsewhere();
        x.street(0, law[i]);
        x.window(11, tp(0, 0));
        x.player(0, 0, -1);
        due(x.once(0, 3), 6);
        due(x.fetch(0), due[i]);
      }
    });
    edge(21, "NOT: no LAW of quiet, or no BARGAIN", () -> {
      // LEAST 6: MOST 5 is no BARGAIN, 6 is one
      for (int law = 0; law < 2; law++) {
        PaidElsewhere x = new PaidElsewhere();
        x.street(5, law);
        x.player(0, 0, -1);
        due(x.fetch(0), NOT);
        x.window(5, tp(0, 0));
        due(x.fetch(0), NOT);
        x.mend(0, 0, 6);
        due(x.fetch(0), law == 0 ? NOT : 1);
      }
    });
    edge(21, "FETCH. BAD; NOT.", () -> {
      for (int ps : NO_PAIR) refused(Towns::rich, BAD, x -> x.fetch(ps));
      refused(Towns::nothing, BAD, x -> x.fetch(0));
    });
  }

  private static void worse() {
    edge(22, "of GOOD 0 .. 10 that by which a PLAYER's BARGAIN with a STREET would be most (of like ones the least; NOT: by none)", () -> {
      // QUIET, TUNE, and the GOOD: a hated tune by the most, a loved one by the least, none at all by all
      int[][] due = {{10, -99, 10}, {10, 99, 0}, {10, 0, 0}, {0, -10, 9}, {0, -20, 10}, {1, -10, 10}, {0, -99, 10}};
      for (int[] one : due) {
        PaidElsewhere x = Towns.streets(0);
        x.window(one[0], tp(one[1], 0));
        x.player(500, 0, -1);
        // half of LEAST 1 and MOST: of 9 it is 5, of 10 it is 5, too
        due(x.worse(0), one[2]);
      }
    });
    edge(22, "of like ones the least", () -> {
      // two windows: what one gains by the tune the other loses
      PaidElsewhere x = Towns.streets(0);
      x.window(50, tp(50, 0));
      x.window(50, tp(-50, 0));
      x.player(1000, 0, -1);
      due(x.worse(0), 0);
      x.mend(0, 1, 0);
      x.mend(1, 1, 0);
      due(x.worse(0), 0);
    });
    edge(22, "NOT: by none", () -> {
      due(fund(0).worse(0), NOT);
      due(fund(0, 0).worse(0), NOT);
      // LEAST 100 is paid by GOOD 10 alone: QUIET 1, TUNE -99
      PaidElsewhere x = Towns.streets(99);
      x.window(0, tp(-99, 0));
      x.player(0, 0, -1);
      due(x.worse(0), NOT);
      x.mend(0, 0, 1);
      due(x.once(0, 3), NOT);
      due(x.worse(0), 10);
    });
  }

  private static void worseLeast() {
    edge(22, "a PLAYER's BARGAIN with a STREET", () -> {
      // the GOOD that one has is nothing to it, the COST is
      for (int good = 0; good <= 10; good++) {
        PaidElsewhere x = Towns.streets(20);
        x.window(0, tp(-20, 0));
        x.player(100 * good, 0, -1);
        x.player(100 * good + 1, 0, -1);
        x.player(100 * good + 20, 0, -1);
        due(x.worse(0), NOT);
        due(x.worse(10), 10);
        due(x.worse(20), 10);
        due(x.of(0, 0), good);
      }
    });
    edge(22, "WORSE. BAD; NOT.", () -> {
      for (int ps : NO_PAIR) refused(Towns::rich, BAD, x -> x.worse(ps));
      refused(Towns::nothing, BAD, x -> x.worse(0));
    });
  }

  private static void lovers() {
    edge(23, "the sum of what WINDOWS of a STREET would pay a PLAYER to stay (HARMS below 0, their sizes)", () -> {
      due(fund(0).lovers(0, 0), 0);
      due(fund(0, 0, 5, 198).lovers(0, 0), 0);
      due(fund(0, -1).lovers(0, 0), 1);
      due(fund(0, -1, 0, 50, -99).lovers(0, 0), 100);
      int[] harms = new int[30];
      java.util.Arrays.fill(harms, -99);
      due(fund(0, harms).lovers(0, 0), 30 * 99);
      // those of another street have no part in it
      PaidElsewhere x = Towns.streets(0, 0);
      x.window(100, tp(50, 0));
      x.player(1000, 0, -1);
      due(x.lovers(0, 0), 0);
      due(x.lovers(1, 0), 50);
    });
    edge(23, "STAY: whether that is LEAST or more", () -> {
      // LEAST 6, and 1 as the least LEAST
      int[] take = {5, 5, 5, 5, 0, 0}, love = {0, 5, 6, 7, 0, 1}, stay = {0, 0, 1, 1, 0, 1};
      for (int i = 0; i < take.length; i++) {
        PaidElsewhere x = Towns.streets(take[i]);
        x.window(0, tp(love[i], 0));
        x.player(1000, 0, -1);
        due(x.lovers(0, 0), love[i]);
        due(x.lovers(0, 1), stay[i]);
      }
    });
    edge(23, "LOVERS (what 0), STAY (1: 1, 0). BAD.", () -> {
      for (int what : new int[] {-1, 2, LOW, HIGH}) refused(Towns::rich, BAD, x -> x.lovers(0, what));
      for (int what = 0; what < 2; what++) {
        int of = what;
        for (int ps : NO_PAIR) refused(Towns::rich, BAD, x -> x.lovers(ps, of));
        refused(Towns::nothing, BAD, x -> x.lovers(0, of));
      }
    });
  }

  private static void judge() {
    edge(24, "the first STREET whose SUM is more than all its WINDOWS' PURSES together; NOT", () -> {
      PaidElsewhere x = Towns.streets(0, 0, 0);
      due(x.judge(), NOT);
      x.window(100, tp(0, 20));
      x.window(200, tp(0, 99));
      x.window(100, tp(0, 30));
      for (int way = 0; way < 5; way++) {
        // 50 of 50 can be paid, 51 can't
        x.pay(1, 100 * way + 50);
        due(x.judge(), NOT);
        x.pay(1, 100 * way + 51);
        due(x.judge(), 1);
      }
      x.pay(2, 99);
      due(x.judge(), 1);
      x.pay(1, 0);
      due(x.judge(), NOT);
    });
    edge(24, "the first STREET whose SUM is more than all its WINDOWS' PURSES together; NOT", () -> {
      // a street without windows has no purse: SUM 0 is not more, 1 is
      PaidElsewhere x = Towns.streets(0, 0, 0, 0, 0, 0);
      due(x.judge(), NOT);
      for (int k = 5; k >= 0; k--) {
        x.pay(k, 1);
        due(x.judge(), k);
      }
      for (int k = 0; k < 6; k++) {
        x.pay(k, 400);
        due(x.judge(), k < 5 ? k + 1 : NOT);
      }
    });
    edge(24, "JUDGED. NOT.", () -> {
      refused(Towns::nothing, NOT, x -> x.judge());
      refused(Towns::rich, 1, x -> x.judge());
      refused(Towns::full, NOT, x -> x.judge());
    });
  }

  private static void undo() {
    edge(25, "UNDONE: how many may still be. STATE: none.", () -> {
      refused(Towns::nothing, STATE, x -> x.undo());
      refused(Towns::full, STATE, x -> x.undo());
      // as soon as all are undone
      refused(x -> {
        int calls = Towns.rich(x);
        x.undo();
        x.undo();
        return calls + 2;
      }, STATE, x -> x.undo());
    });
    edge(25, "(QUIET, TUNE, TAKE; telling the same number is none)", () -> {
      PaidElsewhere x = Towns.streets(7);
      x.window(8, tp(-9, 0));
      due(x.mend(0, 0, 8), 8);
      due(x.mend(0, 1, -9), -9);
      due(x.mend(0, 2, 7), 7);
      due(x.count(4), 0);
      due(x.undo(), STATE);
      x.mend(0, 0, 9);
      x.mend(0, 0, 9);
      due(x.count(4), 1);
      due(x.undo(), 0);
      due(x.of(0, 11), 8);
    });
    edge(25, "(QUIET, TUNE, TAKE; telling the same number is none)", () -> {
      // neither what is told otherwise nor what is refused is a change
      PaidElsewhere x = new PaidElsewhere();
      Towns.rich(x);
      due(x.count(4), 2);
      x.pay(0, 333);
      x.weeks(5, 1);
      x.street(1, 1);
      x.window(0, 0);
      x.player(0, 0, -1);
      x.mend(0, 0, 100);
      x.mend(9, 0, 1);
      due(x.count(4), 2);
      due(x.redo(), 0);
      due(x.of(1, 20), 55);
    });
    edge(25, "can be UNDONE, the latest first", () -> {
      PaidElsewhere x = Towns.streets(7);
      x.window(8, tp(-9, 0));
      x.mend(0, 0, 80);
      x.mend(0, 1, 90);
      x.mend(0, 2, 70);
      x.mend(0, 0, 0);
      int[] place = {11, 20, 12, 11}, value = {80, 7, -9, 8};
      for (int i = 0; i < 4; i++) {
        due(x.undo(), 3 - i);
        due(x.of(0, place[i]), value[i]);
      }
      due(x.undo(), STATE);
    });
  }

  private static void undoMany() {
    edge(25, "40 at most are kept", () -> {
      // each is undone where it was made, those too that moved up as others were forgotten
      PaidElsewhere x = Towns.streets(0, 0, 0, 0, 0, 0);
      for (int w = 0; w < 30; w++) x.window(0, tp(0, 0));
      for (int i = 0; i < 66; i++) x.mend(i < 60 ? i / 2 : i - 60, i < 60 ? i % 2 : 2, 1 + i);
      for (int i = 65; i >= 26; i--) {
        int number = i < 60 ? i / 2 : i - 60, place = i < 60 ? 11 + i % 2 : 20;
        due(x.of(number, place), 1 + i);
        due(x.undo(), i - 26);
        due(x.of(number, place), 0);
      }
      due(x.undo(), STATE);
      due(x.of(12, 12), 26);
      for (int i = 26; i < 66; i++) {
        int number = i < 60 ? i / 2 : i - 60, place = i < 60 ? 11 + i % 2 : 20;
        due(x.redo(), 65 - i);
        due(x.of(number, place), 1 + i);
      }
    });
    edge(25, "40 at most are kept", () -> {
      for (int mends : new int[] {39, 40, 41, 42, 90}) {
        PaidElsewhere x = Towns.streets(0);
        for (int i = 1; i <= mends; i++) x.mend(0, 2, i);
        int kept = Math.min(mends, 40);
        due(x.count(4), kept);
        for (int i = 1; i <= kept; i++) {
          due(x.undo(), kept - i);
          due(x.of(0, 20), mends - i);
        }
        due(x.undo(), STATE);
        due(x.of(0, 20), mends - kept);
      }
    });
    edge(25, "40 at most are kept", () -> {
      // those that were undone don't count: behind ten UNDONE of forty, eleven more are one too many
      PaidElsewhere x = Towns.streets(0);
      for (int i = 1; i <= 40; i++) x.mend(0, 2, i);
      for (int i = 0; i < 10; i++) x.undo();
      for (int i = 1; i <= 11; i++) {
        x.mend(0, 2, 50 + i);
        due(x.count(4), Math.min(30 + i, 40));
      }
      for (int i = 39; i >= 0; i--) due(x.undo(), i);
      due(x.undo(), STATE);
      due(x.of(0, 20), 1);
    });
  }

  private static void redo() {
    edge(26, "DONE AGAIN: how many may still be. STATE: none.", () -> {
      refused(Towns::nothing, STATE, x -> x.redo());
      refused(Towns::full, STATE, x -> x.redo());
      // what was not UNDONE can't be DONE AGAIN, nor what was done again already
      refused(x -> {
        x.street(0, 0);
        x.mend(0, 2, 5);
        return 2;
      }, STATE, x -> x.redo());
      refused(x -> {
        int calls = Towns.rich(x);
        x.redo();
        return calls + 1;
      }, STATE, x -> x.redo());
    });
    edge(26, "DONE AGAIN: how many may still be.", () -> {
      // all forty there and back
      PaidElsewhere x = Towns.streets(0);
      for (int i = 1; i <= 45; i++) x.mend(0, 2, i);
      for (int i = 0; i < 40; i++) x.undo();
      due(x.of(0, 20), 5);
      for (int i = 1; i <= 40; i++) {
        due(x.redo(), 40 - i);
        due(x.of(0, 20), 5 + i);
        due(x.count(4), i);
      }
      due(x.redo(), STATE);
      due(x.undo(), 39);
      due(x.of(0, 20), 44);
    });
  }

  /** Three changes of TAKE, of which two are undone: it is 1. */
  private static PaidElsewhere twoUndone() {
    PaidElsewhere x = Towns.streets(0);
    x.window(0, tp(0, 0));
    for (int i = 1; i <= 3; i++) x.mend(0, 2, i);
    x.undo();
    x.undo();
    return x;
  }

  private static void redoNoMore() {
    edge(26, "DONE AGAIN (as long as no other came behind)", () -> {
      PaidElsewhere x = twoUndone();
      due(x.mend(0, 0, 5), 0);
      due(x.redo(), STATE);
      due(x.of(0, 20), 1);
      due(x.count(4), 2);
      // even if the other one is undone in its turn
      due(x.undo(), 1);
      due(x.redo(), 0);
      due(x.redo(), STATE);
      due(x.of(0, 11), 5);
      due(x.of(0, 20), 1);
    });
    edge(26, "DONE AGAIN (as long as no other came behind)", () -> {
      // the same number told is no other, nor is what is refused or told otherwise
      PaidElsewhere x = twoUndone();
      due(x.mend(0, 2, 1), 1);
      due(x.mend(0, 2, 100), Edges.VOID);
      x.pay(0, 111);
      x.weeks(1, 1);
      x.street(3, 3);
      due(x.redo(), 1);
      due(x.of(0, 20), 2);
      due(x.redo(), 0);
      due(x.of(0, 20), 3);
    });
    edge(26, "DONE AGAIN (as long as no other came behind)", () -> {
      // another one like the one undone is another one
      PaidElsewhere x = twoUndone();
      due(x.mend(0, 2, 2), 1);
      due(x.redo(), STATE);
      due(x.of(0, 20), 2);
      due(x.count(4), 2);
    });
  }
}
