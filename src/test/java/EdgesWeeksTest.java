/** The edges of promises 15 to 19: weeks, what came of them, and weeks in thought. */
public final class EdgesWeeksTest {
  private static final int BAD = Edges.BAD, NOT = Edges.NOT, VOID = Edges.VOID, LOW = Edges.LOW, HIGH = Edges.HIGH;
  /** No numbers of WEEKS, and no streets of rich(), which has 0 and 1. */
  private static final int[] NO_WEEKS = {0, -1, 61, 100, LOW, HIGH}, NO_STREET = {-1, 2, 6, LOW, HIGH};

  public static void main(String[] args) {
    weeksRefused();
    weeksMany();
    weeksThatCome();
    weeksByOne();
    choice();
    weekAhead();
    deed();
    whoPlays();
    oneAlone();
    paidAhead();
    nobodyThere();
    weekRefused();
    weekTold();
    weekKept();
    led();
    best();
    bestSums();
    bestRefused();
    called();
    off();
    Edges.end(15, 19);
  }

  private static void edge(int promise, String sentence, Edges.Case it) { Edges.edge(promise, sentence, it); }
  private static void due(long got, long want) { Edges.due(got, want); }
  private static void refused(Edges.Setup setup, long want, Edges.Call call) { Edges.refused(setup, want, call); }
  private static int tp(int tune, int purse) { return Towns.tp(tune, purse); }

  private static PaidElsewhere byLaw(PaidElsewhere x, String text) {
    due(Towns.law(x, text), 1);
    return x;
  }

  /** Streets of these TAKES, and a player who is at a street. */
  private static PaidElsewhere one(int at, int... takes) {
    PaidElsewhere x = Towns.streets(takes);
    x.player(0, 0, at);
    return x;
  }

  private static void goesTo(PaidElsewhere x, int weeks, int street) {
    due(x.weeks(weeks, 0), street < 0 ? 0 : 1);
    due(x.week(0, 0), street);
  }

  private static void weeksRefused() {
    edge(15, "WEEKS: n of them (1 .. 60) from where PLAYERS are", () -> {
      for (int n : NO_WEEKS) {
        for (int deed = 0; deed < 2; deed++) {
          int inDeed = deed;
          refused(Towns::rich, BAD, x -> x.weeks(n, inDeed));
        }
        refused(Towns::nothing, BAD, x -> x.weeks(n, 1));
      }
    });
    edge(15, "WEEKS, in deed (1) or in thought (0)", () -> {
      for (int deed : new int[] {-1, 2, 10, LOW, HIGH}) {
        refused(Towns::rich, BAD, x -> x.weeks(1, deed));
        refused(Towns::rich, BAD, x -> x.weeks(60, deed));
      }
    });
    edge(15, "how many PLAYERS are somewhere in the last one", () -> {
      // nobody; nowhere to go; one of two
      due(new PaidElsewhere().weeks(1, 0), 0);
      due(Towns.streets(9, 9).weeks(60, 1), 0);
      PaidElsewhere x = new PaidElsewhere();
      x.player(0, 0, -1);
      due(x.weeks(60, 1), 0);
      due(x.week(0, 0), -1);
      PaidElsewhere y = Towns.streets(9);
      y.player(0, 0, -1);
      y.player(9, 0, -1);
      due(y.weeks(1, 0), 1);
      PaidElsewhere z = new PaidElsewhere();
      Towns.full(z);
      z.law();
      due(z.weeks(60, 0), 8);
    });
  }

  private static void weeksMany() {
    edge(15, "WEEKS: n of them (1 .. 60) from where PLAYERS are", () -> {
      // two flee together from street to street, so where they end tells how many weeks there were
      for (int n : new int[] {1, 2, 3, 58, 59, 60}) {
        PaidElsewhere x = one(0, 40, 31);
        x.player(0, 0, 0);
        due(x.weeks(n, 0), 2);
        due(x.week(0, 0), n % 2);
        due(x.week(0, 1), n / 2 * 40 + (n + 1) / 2 * 31);
      }
    });
    edge(15, "WEEKS: n of them (1 .. 60) from where PLAYERS are", () -> {
      // from where they are: after a week in deed the next ones go on from there
      PaidElsewhere x = one(0, 40, 31);
      x.player(0, 0, 0);
      for (int week = 1; week <= 3; week++) {
        due(x.weeks(1, 0), 2);
        due(x.weeks(1, 1), 2);
        due(x.of(0, 3), week % 2);
        due(x.week(1, 0), week % 2);
      }
    });
  }

  private static void weeksThatCome() {
    edge(15, "of all WEEKS COST of each STREET; EARNED of each PLAYER", () -> {
      // the first week is like none behind it: from street 0 it goes to street 1 and stays
      for (int n = 1; n <= 60; n++) {
        PaidElsewhere x = byLaw(one(-1, 50, 7), "k=0?2-2*s;1+2*s");
        goesTo(x, n, n == 1 ? 0 : 1);
        due(x.week(0, 1), 50 + 7 * (n - 1));
      }
    });
    edge(15, "of all WEEKS COST of each STREET; EARNED of each PLAYER", () -> {
      // player 0 goes to and fro between streets 0 and 1; player 1 is at street 2 once, then at street 0
      for (int n = 1; n <= 60; n++) {
        PaidElsewhere x = Towns.streets(30, 20, 10);
        x.window(7, tp(0, 0));
        x.window(103, tp(0, 0));
        x.player(0, 0, -1);
        x.player(1, 0, -1);
        byLaw(x, "c=0?k<2&!s;k=2|n>0");
        due(x.weeks(n, 0), 2);
        int odd = (n + 1) / 2, even = n / 2;
        due(x.week(0, 0), 1 - n % 2);
        due(x.week(1, 0), n == 1 ? 2 : 0);
        isEarned(x, 30 * odd + 20 * even, 10 + 30 * (n - 1) - n);
        due(x.week(0, 2), 7 * (odd + n - 1));
        due(x.week(1, 2), 3 * even);
        due(x.week(2, 2), 0);
      }
    });
  }

  /** Four players about three streets, as if drawn; what was paid is nothing to them. */
  private static PaidElsewhere wild(int factor) {
    PaidElsewhere x = Towns.streets(30, 20, 10);
    for (int k = 0; k < 3; k++) x.window(100 * k + 5 + k, tp(20 - 9 * k, 0));
    for (int p = 0; p < 4; p++) x.player(310 * p + 3, 20 * p, p % 3 - 1);
    x.pay(1, 203);
    return byLaw(x, "(7+t*3+c*5+h*7+n*41+g*3+k*59+s*13)*" + factor + "%97-9");
  }

  private static void weeksByOne() {
    edge(15, "WEEKS: n of them (1 .. 60) from where PLAYERS are", () -> {
      // so many weeks come to what as many single ones in deed come to, one behind the other
      for (int factor = 1; factor <= 40; factor++) {
        PaidElsewhere single = wild(factor);
        int[] earned = new int[4], cost = new int[3];
        for (int n = 1; n <= 60; n++) {
          int somewhere = single.weeks(1, 1);
          PaidElsewhere x = wild(factor);
          due(x.weeks(n, 0), somewhere);
          for (int p = 0; p < 4; p++) due(x.week(p, 1), earned[p] += single.week(p, 1));
          for (int k = 0; k < 3; k++) due(x.week(k, 2), cost[k] += single.week(k, 2));
        }
      }
    });
  }

  private static void choice() {
    edge(15, "(above 0; of like ones the least number; else nowhere, -1)", () -> {
      String[] laws = {"0", "0-1", "1", "k", "k-1", "!k", "0-k", "2048*1024*1024", "2048*1024*1024-1", "9-k%2", "k%2"};
      int[] goesTo = {-1, -1, 0, 5, 5, 0, -1, -1, 0, 0, 1};
      for (int i = 0; i < laws.length; i++) {
        goesTo(byLaw(one(3, 0, 0, 0, 0, 0, 0), laws[i]), 1, goesTo[i]);
        goesTo(byLaw(one(-1, 0, 0, 0, 0, 0, 0), laws[i]), 60, goesTo[i]);
      }
    });
    edge(15, "all PLAYERS at once go to the STREET of which THE LAW gives most", () -> {
      // all eight leave together, though the first to go would be enough
      PaidElsewhere x = Towns.streets(30, 25);
      for (int p = 0; p < 8; p++) x.player(0, 0, 0);
      due(x.weeks(1, 0), 8);
      for (int p = 0; p < 8; p++) due(x.week(p, 0), 1);
      due(x.week(0, 3), 0);
      due(x.week(1, 3), 8);
    });
  }

  private static void weekAhead() {
    edge(15, "by the WEEK ahead (before the first: n by where they are, p 0)", () -> {
      goesTo(byLaw(one(1, 0, 0), "n"), 1, 1);
      goesTo(byLaw(one(1, 0, 0), "!n"), 1, 0);
      goesTo(byLaw(one(-1, 0, 0), "n"), 1, -1);
      goesTo(byLaw(one(1, 0, 0), "s"), 1, 1);
      goesTo(byLaw(one(-1, 0, 0), "s"), 1, -1);
    });
    edge(15, "by the WEEK ahead (before the first: n by where they are, p 0)", () -> {
      // p is 0 in each first week anew, whatever the weeks told earlier paid
      PaidElsewhere x = byLaw(one(0, 0, 0), "p+k*0");
      x.pay(0, 199);
      goesTo(x, 1, -1);
      byLaw(x, "1");
      due(x.weeks(5, 1), 1);
      byLaw(x, "p");
      goesTo(x, 1, -1);
      byLaw(x, "p=0");
      goesTo(x, 1, 0);
      goesTo(x, 2, 1);
    });
    edge(15, "by the WEEK ahead (before the first: n by where they are, p 0)", () -> {
      // the week ahead, none earlier: there, away, there
      for (int n = 1; n <= 60; n++) goesTo(byLaw(one(-1, 0), "!n"), n, n % 2 == 1 ? 0 : -1);
    });
  }

  private static void deed() {
    edge(15, "IN DEED PLAYERS are where they are behind it.", () -> {
      PaidElsewhere x = byLaw(one(0, 0, 0), "k");
      x.player(0, 0, -1);
      due(x.weeks(60, 0), 2);
      due(x.of(0, 3), 0);
      due(x.of(1, 3), -1);
      due(x.weeks(60, 1), 2);
      due(x.of(0, 3), 1);
      due(x.of(1, 3), 1);
      byLaw(x, "0");
      due(x.weeks(1, 0), 0);
      due(x.of(0, 3), 1);
      due(x.weeks(1, 1), 0);
      due(x.of(0, 3), -1);
      due(x.of(1, 3), -1);
    });
    edge(15, "These are the latest WEEKS.", () -> {
      // in thought, too; but best, called, off and refused ones are not
      PaidElsewhere x = byLaw(one(0, 7, 8), "!k");
      due(x.weeks(4, 1), 1);
      due(x.week(0, 1), 28);
      due(x.weeks(3, 0), 1);
      due(x.week(0, 1), 21);
      byLaw(x, "k");
      x.best(0, 9, 0);
      x.called(1, 9);
      x.off(0, 9);
      x.weeks(61, 0);
      x.weeks(9, 2);
      due(x.week(0, 0), 0);
      due(x.week(0, 1), 21);
      due(x.weeks(1, 0), 1);
      due(x.week(0, 0), 1);
      due(x.week(0, 1), 8);
    });
  }

  /** A street of TAKE 10 with a window of QUIET 8 where all players, of these GOODS and of COST 1, stay. */
  private static PaidElsewhere stayers(int law, int wayAndSum, int... goods) {
    PaidElsewhere x = new PaidElsewhere();
    x.street(10, law);
    x.window(8, tp(0, 0));
    for (int good : goods) x.player(100 * good + 1, 0, -1);
    x.pay(0, wayAndSum);
    return byLaw(x, "1");
  }

  private static void isEarned(PaidElsewhere x, int... due) { for (int p = 0; p < due.length; p++) due(x.week(p, 1), due[p]); }

  private static void whoPlays() {
    edge(15, "those who play: WAY 0 all there; 1 none; 2, 4 the one alone; 3 none, if there is a LAW of quiet, else all", () -> {
      // way and sum, law of quiet, COST of the street in a week, EARNED by GOODS 3, 5, 5
      int[][] due = {{0, 0, 24, 9, 9, 9}, {99, 0, 24, 9, 9, 9}, {100, 0, 0, -1, -1, -1}, {199, 9, 297, 98, 98, 98},
          {200, 0, 8, 9, -1, -1}, {299, 9, 107, 108, -1, -1}, {300, 0, 24, 9, 9, 9}, {399, 0, 24, 9, 9, 9},
          {300, 1, 3, -1, -1, -1}, {399, 99, 297, -1, -1, -1}, {400, 0, 8, -1, 9, -1}, {499, 9, 107, -1, 108, -1}};
      for (int[] one : due) {
        for (int n : new int[] {1, 2, 60}) {
          PaidElsewhere x = stayers(one[1], one[0], 3, 5, 5);
          due(x.weeks(n, 0), 3);
          due(x.week(0, 2), n * one[2]);
          isEarned(x, n * one[3], n * one[4], n * one[5]);
        }
      }
    });
    edge(15, "(3: its LAW of quiet for each there)", () -> {
      // for none, one, eight there; the SUM is nothing to it
      for (int there : new int[] {0, 1, 8}) {
        for (int law : new int[] {1, 99}) {
          PaidElsewhere x = stayers(law, 399, new int[there]);
          due(x.weeks(60, 0), there);
          due(x.week(0, 2), 60 * law * there);
        }
      }
    });
    edge(15, "COST to a STREET: HARM of the STREET by each who plays, and what it paid", () -> {
      // a tune that is loved: COST below 0; a street without windows: only what it paid
      PaidElsewhere x = stayers(0, 0, 10, 0);
      x.mend(0, 1, 99);
      due(x.weeks(60, 0), 2);
      due(x.week(0, 2), 60 * (8 - 99 + 8));
      PaidElsewhere y = byLaw(one(0, 5), "1");
      y.pay(0, 133);
      y.weeks(60, 0);
      due(y.week(0, 2), 60 * 33);
    });
  }

  private static void oneAlone() {
    edge(15, "2 pays the PLAYER with the least number there s, so that he alone plays (a standing sum)", () -> {
      // the least number there, not of all: player 0 is elsewhere
      PaidElsewhere x = new PaidElsewhere();
      x.street(10, 0);
      x.street(10, 0);
      x.player(5, 0, -1);
      x.player(1, 0, -1);
      x.player(2, 0, -1);
      byLaw(x, "c=5?k;!k");
      x.pay(0, 207);
      due(x.weeks(1, 0), 3);
      isEarned(x, 5, 16, -2);
    });
    edge(15, "4 pays the best PLAYER there (GOOD; of like ones the least number) s to stay, so that he alone plays", () -> {
      int[][] goods = {{3, 3, 3}, {3, 4, 4}, {4, 4, 3}, {3, 3, 4}, {0, 10, 10}, {0, 0, 0}, {10, 0, 0}};
      int[] best = {0, 1, 0, 2, 1, 0, 0};
      for (int i = 0; i < goods.length; i++) {
        PaidElsewhere x = stayers(0, 405, goods[i]);
        x.weeks(1, 0);
        for (int p = 0; p < 3; p++) due(x.week(p, 1), p == best[i] ? 14 : -1);
      }
    });
    edge(15, "4 pays the best PLAYER there (GOOD; of like ones the least number) s to stay, so that he alone plays", () -> {
      // the best there, not of all
      PaidElsewhere x = new PaidElsewhere();
      x.street(10, 0);
      x.street(10, 0);
      for (int good : new int[] {9, 2, 7}) x.player(100 * good, 0, -1);
      byLaw(x, "g=9?k;!k");
      x.pay(0, 405);
      x.weeks(1, 0);
      isEarned(x, 10, 0, 15);
    });
    edge(15, "3 a constable: each PLAYER there is sent off, at what it costs (the LAW of quiet; 0: none comes)", () -> {
      PaidElsewhere none = stayers(0, 300, 1), one = stayers(1, 300, 1);
      none.weeks(1, 0);
      one.weeks(1, 0);
      due(none.week(0, 2), 8);
      due(none.week(0, 1), 9);
      due(one.week(0, 2), 1);
      due(one.week(0, 1), -1);
    });
  }

  private static void paidAhead() {
    edge(15, "Paid are: 1 each there s; 2, 4 the one s; else nobody.", () -> {
      // what all eight hear of in the second week
      int[] ways = {99, 199, 299, 399, 499, 100, 200, 400}, paid = {0, 792, 99, 0, 99, 0, 0, 0};
      for (int law = 0; law < 2; law++) {
        for (int i = 0; i < ways.length; i++) {
          PaidElsewhere x = new PaidElsewhere();
          x.street(10, law);
          for (int p = 0; p < 8; p++) x.player(0, 0, -1);
          x.pay(0, ways[i]);
          byLaw(x, "n=0|p=" + paid[i]);
          due(x.weeks(2, 0), 8);
          byLaw(x, "n=0|p<" + paid[i] + "|p>" + paid[i]);
          due(x.weeks(2, 0), 0);
        }
      }
    });
    edge(15, "Paid are: 1 each there s; 2, 4 the one s; else nobody.", () -> {
      // where nobody was, nobody was paid: it pays at 1 as long as somebody is there
      for (int way = 1; way < 5; way++) {
        PaidElsewhere x = byLaw(one(0, 0, 0), "k=0?1;p*9");
        x.pay(1, 100 * way + 99);
        goesTo(x, 60, 0);
        due(x.week(1, 2), 0);
      }
    });
  }

  private static void nobodyThere() {
    edge(16, "EARNED of each PLAYER (TAKE, if one plays, and what one is paid, less COST; nowhere 0)", () -> {
      PaidElsewhere x = Towns.streets(50);
      x.player(99, 0, -1);
      x.player(1, 0, 0);
      byLaw(x, "c<99");
      due(x.weeks(60, 0), 1);
      due(x.week(0, 1), 0);
      due(x.week(1, 1), 60 * 49);
    });
    edge(16, "COST of a STREET (2), how many are there (3)", () -> {
      for (int ws : new int[] {0, 199, 299, 300, 499}) {
        PaidElsewhere x = new PaidElsewhere();
        x.street(50, 77);
        x.window(99, tp(0, 0));
        x.player(0, 0, 0);
        x.pay(0, ws);
        byLaw(x, "0");
        due(x.weeks(60, 0), 0);
        due(x.week(0, 2), 0);
        due(x.week(0, 3), 0);
        due(x.week(0, 4), -1);
      }
    });
    edge(16, "of all WEEKS COST of each STREET", () -> {
      // the dearest weeks: eight players, thirty windows, sixty weeks
      PaidElsewhere x = Towns.streets(99);
      for (int w = 0; w < 30; w++) x.window(99, tp(-99, 0));
      for (int p = 0; p < 8; p++) x.player(1000, 0, -1);
      byLaw(x, "1");
      due(x.weeks(60, 0), 8);
      due(x.week(0, 2), 60 * 8 * 30 * 198);
      due(x.week(7, 1), 60 * 99);
      due(x.week(0, 3), 8);
    });
  }

  private static void weekRefused() {
    edge(16, "VOID: BAD, or there are none.", () -> {
      // none were told yet, or they were refused
      PaidElsewhere x = one(0, 5);
      x.weeks(0, 0);
      x.weeks(1, 2);
      x.best(0, 5, 0);
      for (int what = 0; what < 5; what++) due(x.week(0, what), VOID);
      x.weeks(1, 0);
      int[] due = {-1, 0, 0, 0, -1};
      for (int what = 0; what < 5; what++) due(x.week(0, what), due[what]);
    });
    edge(16, "VOID: BAD, or there are none.", () -> {
      for (int what : new int[] {-1, 5, 10, LOW, HIGH}) refused(Towns::rich, VOID, x -> x.week(0, what));
      for (int what = 0; what < 5; what++) {
        int of = what;
        for (int number : new int[] {-1, of < 2 ? 3 : 2, 6, 8, LOW, HIGH}) refused(Towns::rich, VOID, x -> x.week(number, of));
      }
    });
    edge(16, "VOID: BAD, or there are none.", () -> {
      // a player's number is no street's
      PaidElsewhere x = new PaidElsewhere();
      Towns.full(x);
      x.weeks(1, 0);
      for (int what = 0; what < 2; what++) due(x.week(7, what) == VOID ? 1 : 0, 0);
      for (int what = 2; what < 5; what++) due(x.week(5, what) == VOID ? 1 : 0, 0);
      for (int what = 2; what < 5; what++) due(x.week(6, what), VOID);
      for (int what = 0; what < 2; what++) due(x.week(8, what), VOID);
    });
  }

  private static void weekTold() {
    edge(16, "VOID: BAD, or there are none.", () -> {
      // nor is a street's number a player's: six streets, one player, or none
      PaidElsewhere x = one(0, 5, 5, 5, 5, 5, 5), y = Towns.streets(5);
      x.weeks(2, 0);
      y.weeks(2, 0);
      for (int what = 0; what < 5; what++) {
        due(x.week(1, what) == VOID ? 1 : 0, what < 2 ? 1 : 0);
        due(y.week(0, what) == VOID ? 1 : 0, what < 2 ? 1 : 0);
        due(y.week(1, what), VOID);
      }
    });
    edge(16, "Of the latest WEEKS: where a PLAYER is in the last one (what 0), EARNED (1)", () -> {
      // who came behind them was not in them
      PaidElsewhere x = one(0, 5);
      due(x.weeks(1, 0), 0);
      x.player(0, 0, 0);
      x.street(9, 0);
      for (int what = 0; what < 2; what++) due(x.week(1, what), VOID);
      for (int what = 2; what < 5; what++) due(x.week(1, what), VOID);
      due(x.weeks(1, 0), 2);
      due(x.week(1, 0), 1);
      due(x.week(1, 3), 2);
    });
    edge(16, "Of the latest WEEKS: where a PLAYER is in the last one (what 0), EARNED (1)", () -> {
      // nowhere is -1, and EARNED may be below 0
      PaidElsewhere x = Towns.streets(5);
      x.player(9, 0, 0);
      due(x.weeks(1, 0), 0);
      due(x.week(0, 0), -1);
      due(x.week(0, 1), 0);
      byLaw(x, "1");
      x.weeks(60, 0);
      due(x.week(0, 1), -240);
    });
  }

  private static void weekKept() {
    edge(16, "Kept: of the last WEEK who is where, of all WEEKS COST of each STREET", () -> {
      // what is told or undone behind them changes nothing of them
      PaidElsewhere x = stayers(0, 0, 1, 2);
      x.weeks(3, 0);
      x.mend(0, 0, 50);
      x.mend(0, 2, 99);
      x.pay(0, 199);
      byLaw(x, "0");
      x.undo();
      due(x.week(0, 2), 3 * 2 * 8);
      due(x.week(0, 1), 27);
      due(x.week(0, 3), 2);
      due(x.week(0, 4), 0);
    });
    edge(16, "Kept: of the last WEEK who is where, of all WEEKS COST of each STREET", () -> {
      // of the latest ones alone: nothing is added to those ahead of them
      PaidElsewhere x = stayers(0, 0, 1);
      for (int n : new int[] {60, 1, 7}) {
        x.weeks(n, 1);
        due(x.week(0, 2), 8 * n);
        due(x.week(0, 1), 9 * n);
      }
    });
  }

  private static void led() {
    edge(16, "the PLAYER who EARNED most in all WEEKS (of like ones the first); -1: none was there", () -> {
      int[][] costs = {{3, 3, 3}, {4, 3, 3}, {3, 4, 3}, {5, 4, 3}, {99, 99, 99}, {99, 98, 98}};
      int[] leader = {0, 1, 0, 2, 0, 1};
      for (int i = 0; i < costs.length; i++) {
        PaidElsewhere x = Towns.streets(0, 0);
        for (int cost : costs[i]) x.player(cost, 0, -1);
        byLaw(x, "1");
        due(x.weeks(2, 0), 3);
        due(x.week(0, 4), leader[i]);
        due(x.week(1, 4), -1);
      }
    });
    edge(16, "of those at a STREET in the last WEEK the PLAYER who EARNED most in all WEEKS", () -> {
      // who earned most of all is elsewhere in the last one; what counts was earned in all, elsewhere too
      PaidElsewhere x = Towns.streets(50, 1);
      for (int cost = 2; cost >= 0; cost--) x.player(cost, 0, -1);
      // 0 is always at street 0, 2 at street 1, and 1 goes from street 0 to street 1
      byLaw(x, "c=2?!k;c=0?k;k=0?n=0;n=1");
      due(x.weeks(2, 0), 3);
      isEarned(x, 96, 49, 2);
      due(x.week(1, 3), 2);
      due(x.week(1, 4), 1);
      due(x.week(0, 4), 0);
    });
  }

  /** A street of TAKE 10 with a window that these harm as told: GOOD 10 by -15, GOOD 0 by 5; all stay. */
  private static PaidElsewhere loved(int... goods) {
    PaidElsewhere x = new PaidElsewhere();
    x.street(10, 0);
    x.window(5, tp(20, 0));
    for (int good : goods) x.player(100 * good, 0, -1);
    return byLaw(x, "1");
  }

  private static void best() {
    edge(17, "that with the least COST of so many WEEKS (in thought; of like ones the first)", () -> {
      // nobody there: all cost 0; nobody harmed: WAY 0; none plays: 100 as the first of 0; who is alone: 200 ahead of 400
      int[][] goods = {{}, {10}, {0}, {10, 10}, {10, 0}, {0, 10}, {0, 0, 10}};
      int[] way = {0, 0, 100, 0, 200, 400, 400}, cost = {0, -15, 0, -30, -15, -15, -15};
      for (int i = 0; i < goods.length; i++) {
        for (int n : new int[] {1, 60}) {
          PaidElsewhere x = loved(goods[i]);
          due(x.best(0, n, 0), way[i]);
          due(x.best(0, n, 1), n * cost[i]);
        }
      }
    });
    edge(17, "that with the least COST of so many WEEKS (in thought; of like ones the first)", () -> {
      // what was told stays told, and nobody moves
      refused(x -> {
        x.street(10, 0);
        x.player(0, 0, -1);
        x.pay(0, 333);
        x.weeks(2, 0);
        x.mend(0, 2, 11);
        return 5;
      }, 0, x -> x.best(0, 60, 0));
    });
    edge(17, "that with the least COST of so many WEEKS (in thought; of like ones the first)", () -> {
      // WAY 3 without a LAW of quiet is as WAY 0, and behind it
      PaidElsewhere x = loved(10);
      x.pay(0, 300);
      due(x.best(0, 5, 0), 0);
      due(x.of(0, 22), 300);
    });
  }

  private static void bestSums() {
    edge(17, "of WAYS 0 .. 4 with SUMS 0, 10 .. 90 (WAY 0, 3: 0 alone; all other STREETS as told)", () -> {
      // one whom two windows love by 198 together comes once, and stays for no less than this
      int[] least = {1, 10, 11, 71, 80, 81, 90}, sum = {10, 10, 20, 80, 80, 90, 90};
      for (int i = 0; i < least.length; i++) {
        PaidElsewhere x = Towns.streets(0);
        x.window(0, tp(99, 0));
        x.window(0, tp(99, 0));
        x.player(1000, 0, -1);
        byLaw(x, "n=0?1;p>" + (least[i] - 1));
        due(x.best(0, 2, 0), 200 + sum[i]);
        due(x.best(0, 2, 1), 2 * (sum[i] - 198));
        // 91 is paid by none of these SUMS: then it comes once only
        byLaw(x, "n=0?1;p>90");
        due(x.best(0, 2, 0), 0);
        due(x.best(0, 2, 1), -198);
      }
    });
    edge(17, "(WAY 0, 3: 0 alone; all other STREETS as told)", () -> {
      // street 0 holds the player by what it pays, so that street 1 has nobody to pay for
      for (int told : new int[] {0, 110}) {
        PaidElsewhere x = Towns.streets(0, 0);
        x.window(107, tp(0, 0));
        x.player(0, 0, -1);
        byLaw(x, "k=0?p+!n*2;1");
        x.pay(0, told);
        due(x.best(1, 2, 0), told == 0 ? 100 : 0);
        due(x.best(1, 2, 1), 0);
      }
    });
  }

  private static void bestRefused() {
    edge(17, "its COST (1). VOID: BAD.", () -> {
      for (int what = 0; what < 2; what++) {
        int of = what;
        for (int n : NO_WEEKS) refused(Towns::rich, VOID, x -> x.best(0, n, of));
        for (int street : NO_STREET) refused(Towns::rich, VOID, x -> x.best(street, 1, of));
        refused(Towns::nothing, VOID, x -> x.best(0, 1, of));
        refused(Towns::full, VOID, x -> x.best(6, 1, of));
      }
      for (int what : new int[] {-1, 2, LOW, HIGH}) refused(Towns::rich, VOID, x -> x.best(0, 1, what));
    });
  }

  private static void called() {
    edge(18, "how many PLAYERS are there in the last WEEK by its WAY less how many by WAY 0", () -> {
      // who is paid comes; who hates payers goes; in the first week nobody has heard of it
      String[] laws = {"n=0|p=99", "n=0|p=0", "n=0|p=99", "1", "0"};
      int[] way = {199, 199, 99, 199, 199}, calls = {1, -1, 0, 0, 0};
      for (int i = 0; i < laws.length; i++) {
        PaidElsewhere x = byLaw(one(-1, 0), laws[i]);
        x.pay(0, way[i]);
        due(x.called(0, 1), 0);
        due(x.called(0, 2), calls[i]);
      }
    });
    edge(18, "how many PLAYERS are there in the last WEEK by its WAY less how many by WAY 0", () -> {
      // all eight of them, either way
      for (int more = -1; more < 2; more += 2) {
        PaidElsewhere x = Towns.streets(0);
        for (int p = 0; p < 8; p++) x.player(0, 0, -1);
        x.pay(0, 101);
        byLaw(x, more > 0 ? "n=0|p=8" : "n=0|p=0");
        // by the other WAY they come and go by turns
        due(x.called(0, 60), 8 * more);
        due(x.called(0, 59), 0);
        due(x.called(0, 2), 8 * more);
      }
    });
    edge(18, "by its WAY less how many by WAY 0", () -> {
      // the least SUM by which somebody is paid, and none: who hears of 1 comes
      int[] told = {101, 201, 401, 100, 200, 400, 1, 301}, calls = {1, 1, 1, 0, 0, 0, 0, 0};
      for (int i = 0; i < told.length; i++) {
        PaidElsewhere x = byLaw(one(-1, 0), "n=0|p=1");
        x.pay(0, told[i]);
        due(x.called(0, 2), calls[i]);
        due(x.of(0, 22), told[i]);
      }
    });
    edge(18, "by its WAY less how many by WAY 0", () -> {
      // other streets pay as told: street 0 holds whom it pays; else one goes to street 1 and is held there
      int[] told = {0, 110}, calls = {1, 0};
      for (int i = 0; i < 2; i++) {
        PaidElsewhere x = byLaw(one(-1, 0, 0), "k=0?n=0|p;(n=0)+(p>2)*2");
        x.pay(0, told[i]);
        x.pay(1, 105);
        due(x.called(1, 3), calls[i]);
      }
    });
    edge(18, "CALLED UP in n WEEKS. VOID: BAD.", () -> {
      for (int n : NO_WEEKS) refused(Towns::rich, VOID, x -> x.called(0, n));
      for (int street : NO_STREET) refused(Towns::rich, VOID, x -> x.called(street, 1));
      refused(Towns::nothing, VOID, x -> x.called(0, 1));
      refused(Towns::full, VOID, x -> x.called(6, 60));
    });
  }

  /** Two at a street as told by the law. */
  private static PaidElsewhere two(String text) {
    PaidElsewhere x = Towns.streets(0);
    x.player(0, 0, 0);
    x.player(5, 0, 0);
    return byLaw(x, text);
  }

  private static void off() {
    edge(19, "the least SUM (0 .. 99) of a standing sum by which at most one PLAYER is there in the last WEEK; NOT", () -> {
      String[] laws = {"0", "1", "1-p", "2-p", "99-p", "100-p", "c=0", "c=0|p<1", "c=0|p<50", "c=0|p<99", "c=0|p<100", "p=0", "!p|p>30"};
      int[] offs = {0, NOT, 1, 2, 99, NOT, 0, 1, 50, 99, NOT, 1, 1};
      for (int i = 0; i < laws.length; i++) due(two(laws[i]).off(0, 2), offs[i]);
    });
    edge(19, "the least SUM (0 .. 99) of a standing sum by which at most one PLAYER is there in the last WEEK; NOT", () -> {
      // the last week alone counts: in the first nobody has heard of the sum
      due(two("1-p").off(0, 1), NOT);
      due(two("1-p").off(0, 3), NOT);
      due(two("1-p").off(0, 60), 1);
      // nobody, or one: SUM 0 is enough
      due(Towns.streets(0).off(0, 60), 0);
      due(byLaw(one(0, 0), "1").off(0, 60), 0);
    });
    edge(19, "the least SUM (0 .. 99) of a standing sum by which at most one PLAYER is there in the last WEEK; NOT", () -> {
      // a standing sum is thought of, whatever WAY was told; what was told stays
      PaidElsewhere x = two("9-p");
      for (int ws : new int[] {0, 199, 299, 300, 499}) {
        x.pay(0, ws);
        due(x.off(0, 2), 9);
        due(x.of(0, 22), ws);
        due(x.of(0, 3), 0);
      }
      due(x.week(0, 0), VOID);
    });
    edge(19, "a standing sum by which at most one PLAYER is there in the last WEEK; NOT", () -> {
      // other streets pay as told: two are held by what street 0 pays them, else they come
      int[] told = {0, 110}, offs = {NOT, 0};
      for (int i = 0; i < 2; i++) {
        PaidElsewhere x = Towns.streets(0, 0);
        for (int p = 0; p < 2; p++) x.player(0, 0, -1);
        byLaw(x, "k=0?n=0|p;1");
        x.pay(0, told[i]);
        due(x.off(1, 2), offs[i]);
      }
    });
    edge(19, "OFF in n WEEKS. BAD; NOT.", () -> {
      for (int n : NO_WEEKS) refused(Towns::rich, BAD, x -> x.off(0, n));
      for (int street : NO_STREET) refused(Towns::rich, BAD, x -> x.off(street, 1));
      refused(Towns::nothing, BAD, x -> x.off(0, 1));
      refused(Towns::full, BAD, x -> x.off(6, 60));
    });
  }
}
