/** The edges of promises 9 to 12: one player and one street once, windows that wait. */
public final class EdgesOnceTest {
  private static final int BAD = Edges.BAD, NOT = Edges.NOT, VOID = Edges.VOID, LOW = Edges.LOW, HIGH = Edges.HIGH;
  /** rich() has players 0 to 2 and streets 0 and 1. */
  private static final int[] NO_PAIR = {2, 9, 12, 22, 30, 31, 70, 80, 100, -1, -10, -11, LOW, HIGH};

  public static void main(String[] args) {
    harm();
    harmRefused();
    least();
    most();
    bargain();
    onceRefused();
    waitingBelowHaste();
    waitingWindows();
    waitingLost();
    waitingRefused();
    exactly();
    exactlyRefused();
    Edges.end(9, 12);
  }

  private static void edge(int promise, String sentence, Edges.Case it) { Edges.edge(promise, sentence, it); }
  private static void due(long got, long want) { Edges.due(got, want); }
  private static void refused(Edges.Setup setup, long want, Edges.Call call) { Edges.refused(setup, want, call); }
  private static int tp(int tune, int purse) { return Towns.tp(tune, purse); }

  /** One street with windows of these HARMS by player 0, whose GOOD is 10; a HARM below 0 is a TUNE. */
  private static PaidElsewhere harms(int... harms) {
    PaidElsewhere x = Towns.streets(0);
    for (int harm : harms) {
      int quiet = Math.min(Math.max(harm, 0), 99);
      x.window(quiet, tp(quiet - harm, 0));
    }
    x.player(1000, 0, -1);
    return x;
  }

  private static void harm() {
    edge(9, "QUIET less TUNE times GOOD by 10 (cut)", () -> {
      // TUNES of 19, -19, 1, -1 by GOOD 1: 1, -1, 0, 0; by GOOD 9: 17, -17, 0, 0
      PaidElsewhere x = Towns.streets(0);
      for (int tune : new int[] {19, -19, 1, -1}) x.window(5, tp(tune, 0));
      x.player(100, 0, -1);
      x.player(900, 0, -1);
      int[] byOne = {4, 6, 5, 5}, byNine = {-12, 22, 5, 5};
      for (int w = 0; w < 4; w++) {
        due(x.harm(w), byOne[w]);
        due(x.harm(100 + w), byNine[w]);
      }
    });
    edge(9, "QUIET less TUNE times GOOD by 10 (cut)", () -> {
      // the most and the least that may be, and GOOD 0, by which a tune is nothing
      PaidElsewhere x = Towns.streets(0);
      x.window(99, tp(-99, 0));
      x.window(0, tp(99, 0));
      x.player(1000, 0, -1);
      x.player(0, 0, -1);
      due(x.harm(0), 198);
      due(x.harm(1), -99);
      due(x.harm(100), 99);
      due(x.harm(101), 0);
    });
    edge(9, "(pw: 100 times the PLAYER, and the WINDOW)", () -> {
      PaidElsewhere x = new PaidElsewhere();
      Towns.full(x);
      // window w of full() has QUIET w and TUNE w, player p GOOD p
      due(x.harm(0), 0);
      due(x.harm(29), 29);
      due(x.harm(700), 0);
      due(x.harm(729), 29 - 20);
    });
  }

  private static void harmRefused() {
    edge(9, "VOID: BAD.", () -> {
      for (int pw : new int[] {30, 31, 99, 130, 730, 799, 800, 829, 2000, -1, -100, LOW, HIGH}) {
        refused(Towns::full, VOID, x -> x.harm(pw));
      }
      for (int pw : new int[] {3, 103, 203, 300, 302, -1}) refused(Towns::rich, VOID, x -> x.harm(pw));
      refused(Towns::nothing, VOID, x -> x.harm(0));
    });
    edge(9, "VOID: BAD.", () -> {
      // a window without a player, a player without a window
      PaidElsewhere x = Towns.streets(0);
      x.window(7, tp(0, 0));
      due(x.harm(0), VOID);
      PaidElsewhere y = Towns.streets(0);
      y.player(0, 0, -1);
      due(y.harm(0), VOID);
    });
  }

  private static void least() {
    edge(10, "TAKE less COST, 0 at least, and 1", () -> {
      int[] take = {20, 21, 19, 0, 99, 0}, cost = {20, 20, 20, 99, 0, 0}, least = {1, 2, 1, 1, 100, 1};
      for (int i = 0; i < take.length; i++) {
        PaidElsewhere x = Towns.streets(take[i]);
        x.player(cost[i], 0, -1);
        due(x.once(0, 1), least[i]);
      }
    });
    edge(10, "HARM of a STREET by a PLAYER: the sum over its WINDOWS", () -> {
      due(harms().once(0, 0), 0);
      due(harms(5, -9, 0).once(0, 0), -4);
      PaidElsewhere x = Towns.streets(0, 0);
      for (int w = 0; w < 29; w++) x.window(99, tp(-99, 0));
      x.window(100, tp(99, 0));
      x.player(1000, 0, -1);
      due(x.once(0, 0), 29 * 198);
      due(x.once(1, 0), -99);
    });
  }

  private static void most() {
    edge(10, "MOST that they would pay: the sum of HARMS that are above 0", () -> {
      due(harms().once(0, 2), 0);
      due(harms(0).once(0, 2), 0);
      due(harms(-1, -50).once(0, 2), 0);
      due(harms(1, 0, -1).once(0, 2), 1);
      due(harms(198, -99, 3).once(0, 2), 201);
    });
  }

  private static void bargain() {
    edge(10, "half (cut) of LEAST and MOST together, if MOST is LEAST or more; NOT: else", () -> {
      // LEAST is 6: MOST 5 is too little, 6 is enough; 6 and 7 by half are 6
      int[] most = {0, 5, 6, 7, 8}, bargain = {NOT, NOT, 6, 6, 7};
      for (int i = 0; i < most.length; i++) {
        PaidElsewhere x = Towns.streets(5);
        x.window(most[i], tp(0, 0));
        x.player(0, 0, -1);
        due(x.once(0, 3), bargain[i]);
      }
    });
    edge(10, "half (cut) of LEAST and MOST together, if MOST is LEAST or more; NOT: else", () -> {
      // LEAST 1 is the least there is: without a HARM above 0 there is no bargain, with one of 1 there is
      due(harms().once(0, 3), NOT);
      due(harms(0, -5).once(0, 3), NOT);
      due(harms(1, -5).once(0, 3), 1);
    });
  }

  private static void onceRefused() {
    edge(10, "LEAST (1), MOST (2), BARGAIN (3; NOT). VOID: BAD.", () -> {
      for (int what : new int[] {-1, 4, 10, LOW, HIGH}) refused(Towns::rich, VOID, x -> x.once(0, what));
      for (int what = 0; what < 4; what++) {
        int of = what;
        for (int ps : NO_PAIR) refused(Towns::rich, VOID, x -> x.once(ps, of));
        refused(Towns::nothing, VOID, x -> x.once(0, of));
      }
    });
    edge(10, "(ps: 10 times the PLAYER, and the STREET)", () -> {
      for (int ps : new int[] {6, 9, 16, 76, 79, 80, 85}) refused(Towns::full, VOID, x -> x.once(ps, 1));
      PaidElsewhere x = new PaidElsewhere();
      Towns.full(x);
      due(x.once(75, 1), 50 - 7 + 1);
      due(x.once(70, 1), 1);
      due(x.once(5, 1), 50 + 1);
    });
  }

  private static int draw(int z) { return (z >>> 8) % 1000; }

  /** By the whole numbers, of which an int keeps the lowest 32 bits. */
  private static int next(int z) { return (int) (z * 1103515245L + 12345L & 0xffffffffL); }

  /** A SEED whose first two draws are these. */
  private static int seedOf(int first, int second) {
    for (int seed = 0; seed < 1 << 28; seed++) {
      int z = next(seed);
      if (draw(z) == first && draw(next(z)) == second) return seed;
    }
    return 0;
  }

  private static void waitingBelowHaste() {
    edge(11, "one pays, if (z >>> 8) % 1000 is below HASTE", () -> {
      // two windows of HARM 10 and s 90: HASTE is 100
      PaidElsewhere x = harms(10, 10);
      int[][] draws = {{99, 100, 0}, {100, 99, 1}, {100, 100, NOT}, {99, 99, 0}, {0, 999, 0}, {999, 0, 1}, {999, 999, NOT}};
      for (int[] one : draws) {
        int seed = seedOf(one[0], one[1]);
        due(x.waiting(0, 90, seed, 10), one[2] == NOT ? NOT : 0);
        due(x.waiting(0, 90, seed, 11), one[2]);
        due(x.waiting(0, 90, seed, 12), one[2] == NOT ? 20 : 0);
      }
    });
    edge(11, "z = z * 1103515245 + 12345 (an int; SEED at first) ahead of each", () -> {
      // by SEED 0 the first z is 12345, its draw 48; by SEED 1 it is 1103527590, its draw 654
      int[] harm = {36, 19}, s = {19, 10}, haste = {654, 655};
      for (int i = 0; i < 2; i++) {
        due(1000 * harm[i] / (harm[i] + s[i]), haste[i]);
        PaidElsewhere x = harms(harm[i], harm[i]);
        due(x.waiting(0, s[i], 0, 11), 0);
        boolean pays = 654 < haste[i];
        due(x.waiting(0, s[i], 1, 11) == 0 ? 1 : 0, pays ? 1 : 0);
      }
    });
    edge(11, "z = z * 1103515245 + 12345 (an int; SEED at first) ahead of each", () -> {
      // all kinds of seeds, z below 0 too, whose >>> is none below 0
      PaidElsewhere x = harms(10, 10);
      int[] seeds = {0, 1, -1, 2, -2, 255, 256, -256, 1 << 30, LOW, LOW + 1, HIGH, HIGH - 1, 123456789, -987654321};
      for (int seed : seeds) {
        int z = seed, paid = NOT;
        for (int i = 0; i < 2 * 60 && paid == NOT; i++) {
          z = next(z);
          if (draw(z) < 100) paid = i;
        }
        due(x.waiting(0, 90, seed, 600), paid == NOT ? NOT : paid / 2);
        due(x.waiting(0, 90, seed, 601), paid == NOT ? NOT : paid % 2);
        due(x.waiting(0, 90, seed, 602), 20 * (paid == NOT ? 60 : paid / 2));
      }
    });
    edge(11, "1000 HARM by (HARM and s times (how many such WINDOWS there are less 1)) (cut)", () -> {
      // one alone, or s 0: HASTE is 1000, above all draws
      for (int seed = -300; seed < 300; seed++) {
        PaidElsewhere x = harms(0, -5, 1, 0);
        due(x.waiting(0, 99, seed, 11), 2);
        due(x.waiting(0, 99, seed, 10), 0);
        due(harms(1, 198, 7).waiting(0, 0, seed, 11), 0);
      }
    });
    edge(11, "1000 HARM by (HARM and s times (how many such WINDOWS there are less 1)) (cut)", () -> {
      // thirty of HARM 1 by s 35: 1000 by 1016 is cut to 0, so nobody ever pays
      int[] ones = new int[30];
      java.util.Arrays.fill(ones, 1);
      PaidElsewhere x = harms(ones);
      for (int seed = -60; seed < 60; seed++) due(x.waiting(0, 35, seed, 600), NOT);
      due(x.waiting(0, 35, 0, 602), 60 * 30);
    });
  }

  private static void waitingWindows() {
    edge(11, "each WINDOW of a STREET (its HARM by a PLAYER above 0) may pay a sum s alone", () -> {
      // no draw is made for windows of HARM 0 or below, and none for those of other streets
      PaidElsewhere x = Towns.streets(0, 0);
      int[] sq = {0, 110, 10, 0, 100, 10}, tune = {0, 0, 0, 1, 0, 0};
      for (int w = 0; w < 6; w++) x.window(sq[w], tp(tune[w], 0));
      x.player(1000, 0, -1);
      PaidElsewhere y = harms(10, 10);
      for (int seed = 0; seed < 50; seed++) {
        int plain = y.waiting(0, 90, seed, 601);
        due(x.waiting(0, 90, seed, 600), y.waiting(0, 90, seed, 600));
        due(x.waiting(0, 90, seed, 601), plain == NOT ? NOT : plain == 0 ? 2 : 5);
        if (seed < 9) due(x.waiting(1, 90, seed, 11), 1);
      }
    });
    edge(11, "NOT: none did, or there are none", () -> {
      for (PaidElsewhere x : new PaidElsewhere[] {harms(), harms(0), harms(-1, 0, -99)}) {
        due(x.waiting(0, 0, 0, 10), NOT);
        due(x.waiting(0, 0, 0, 11), NOT);
        due(x.waiting(0, 0, 0, 12), 0);
        due(x.waiting(0, 99, 5, 602), 0);
      }
    });
    edge(11, "the first that pays ends it: the ROUND, the WINDOW", () -> {
      // the ROUND counts from 0: with one ROUND more than went by ahead of it, it is in; with as many it is not
      PaidElsewhere x = harms(10, 10);
      for (int seed = 0; seed < 30; seed++) {
        int round = x.waiting(0, 90, seed, 600);
        if (round < 1 || round > 58) continue;
        due(x.waiting(0, 90, seed, 10 * (round + 1)), round);
        due(x.waiting(0, 90, seed, 10 * round), NOT);
        due(x.waiting(0, 90, seed, 10 * round + 1), NOT);
        due(x.waiting(0, 90, seed, 10 * (round + 2)), round);
      }
    });
  }

  private static void waitingLost() {
    edge(11, "HARM of all such times how many ROUNDS went by ahead of that one (all, if none paid)", () -> {
      // of HARMS 10, 10, -9 and 0 all such are 20
      PaidElsewhere x = harms(10, -9, 10, 0);
      int seed = seedOf(100, 99), late = seedOf(100, 100);
      due(x.waiting(0, 90, seed, 602), 0);
      due(x.waiting(0, 90, late, 12), 20);
      int round = x.waiting(0, 90, late, 600);
      due(x.waiting(0, 90, late, 602), 20 * (round == NOT ? 60 : round));
      due(x.waiting(0, 90, late, 10 * round + 2), 20 * round);
    });
    edge(11, "HARM of all such times how many ROUNDS went by ahead of that one (all, if none paid)", () -> {
      // as much as may be: thirty of 198 in sixty rounds; HASTE is 198000 by 198 and 99 * 29, 64
      int[] dear = new int[30];
      java.util.Arrays.fill(dear, 198);
      PaidElsewhere x = harms(dear);
      for (int seed = 0; seed < 40; seed++) {
        int z = seed, at = 0;
        for (z = next(z); draw(z) >= 64 && at < 1800; z = next(z)) at++;
        due(x.waiting(0, 99, seed, 602), 30 * 198 * (at / 30));
      }
    });
  }

  private static void waitingRefused() {
    edge(11, "so many ROUNDS: the ROUND (what 0, from 0; NOT), the WINDOW (1; NOT), LOST (2). BAD.", () -> {
      int[] rws = {0, 1, 2, 9, 13, 19, 603, 609, 610, 611, 612, 1000, -1, -10, -9, -600, LOW, HIGH};
      for (int rw : rws) refused(Towns::rich, BAD, x -> x.waiting(0, 5, 1, rw));
      for (int rw : new int[] {10, 11, 12, 600, 601, 602}) {
        PaidElsewhere x = harms(7);
        due(x.waiting(0, 5, 1, rw), 0);
      }
    });
    edge(11, "In ROUNDS (1 .. 60) by a SEED", () -> {
      // thirty of HARM 1 by s 35 never pay: what is LOST tells how many ROUNDS went by
      int[] ones = new int[30];
      java.util.Arrays.fill(ones, 1);
      PaidElsewhere x = harms(ones);
      for (int rounds = -1; rounds <= 62; rounds++) {
        due(x.waiting(0, 35, 7, 10 * rounds + 2), rounds >= 1 && rounds <= 60 ? 30 * rounds : BAD);
      }
    });
    edge(11, "WAITING, a sum s (0 .. 99)", () -> {
      for (int s : new int[] {-1, 100, LOW, HIGH}) {
        for (int rw = 10; rw < 13; rw++) {
          int of = rw;
          refused(Towns::rich, BAD, x -> x.waiting(0, s, 1, of));
        }
      }
      for (int s : new int[] {0, 99}) due(harms(7).waiting(0, s, 1, 10), 0);
    });
    edge(11, "(ps: 10 times the PLAYER, and the STREET)", () -> {
      PaidElsewhere x = new PaidElsewhere();
      Towns.lastPair(x);
      int[] ps = {75, 65, 5, 70, 60, 72}, first = {2, NOT, NOT, 0, 0, NOT}, all = {20, 0, 0, 10, 10, 0}, s = {90, 9, 9, 45, 45, 9};
      int late = seedOf(100, 100);
      for (int i = 0; i < ps.length; i++) {
        due(x.waiting(ps[i], 0, 1, 10), first[i] == NOT ? NOT : 0);
        due(x.waiting(ps[i], 0, 1, 11), first[i]);
        // HASTE is 100 by these sums, so nobody pays
        due(x.waiting(ps[i], s[i], late, 10), NOT);
        due(x.waiting(ps[i], s[i], late, 12), all[i]);
      }
    });
    edge(11, "(ps: 10 times the PLAYER, and the STREET)", () -> {
      for (int ps : NO_PAIR) refused(Towns::rich, BAD, x -> x.waiting(ps, 5, 1, 10));
      refused(Towns::nothing, BAD, x -> x.waiting(0, 5, 1, 12));
    });
  }

  private static void exactly() {
    edge(12, "EXACTLY behind ROUNDS (0 .. 60).", () -> {
      PaidElsewhere x = harms(10, 40);
      due(x.exactly(0, 90, 0), 1000);
      due(x.exactly(0, 90, 1), 623);
      due(x.exactly(0, 90, 60), 0);
      due(harms().exactly(0, 0, 0), 1000);
      due(harms(5).exactly(0, 0, 0), 1000);
    });
    edge(12, "1000000, for each ROUND and such WINDOW times (1000 less HASTE) / 1000 (cut); by 1000", () -> {
      // cut at each step: 381985 millionths and 2997, where one cut at the end would leave 382012 and 3001
      due(harms(2, 2, 2).exactly(0, 83, 29), 381);
      due(harms(15, 16).exactly(0, 88, 18), 2);
      // ten of 1000 by two windows of HASTE 900
      due(harms(90, 90).exactly(0, 10, 1), 10);
      due(harms(90, 90).exactly(0, 10, 2), 0);
    });
    edge(12, "1000000, for each ROUND and such WINDOW times (1000 less HASTE) / 1000 (cut); by 1000", () -> {
      // HASTE 1000: surely somebody pays; HASTE 0: surely nobody does
      due(harms(5).exactly(0, 99, 1), 0);
      due(harms(5, 6).exactly(0, 0, 1), 0);
      int[] ones = new int[30];
      java.util.Arrays.fill(ones, 1);
      due(harms(ones).exactly(0, 35, 60), 1000);
      // by s 34 HASTE is 1: thirty times 999 thousandths
      due(harms(ones).exactly(0, 34, 1), 970);
    });
    edge(12, "each WINDOW of a STREET (its HARM by a PLAYER above 0) may pay a sum s alone", () -> {
      due(harms().exactly(0, 0, 60), 1000);
      due(harms(0, -7).exactly(0, 0, 60), 1000);
      due(harms(0, 10, -7, 40).exactly(0, 90, 1), 623);
      PaidElsewhere x = Towns.streets(0, 0);
      x.window(10, tp(0, 0));
      x.window(110, tp(0, 0));
      x.window(40, tp(0, 0));
      x.player(1000, 0, -1);
      due(x.exactly(0, 90, 1), 623);
      due(x.exactly(1, 90, 1), 0);
    });
  }

  private static void exactlyRefused() {
    edge(12, "EXACTLY behind ROUNDS (0 .. 60).", () -> {
      for (int rounds : new int[] {-1, 61, LOW, HIGH}) refused(Towns::rich, BAD, x -> x.exactly(0, 5, rounds));
    });
    edge(12, "(ps: 10 times the PLAYER, and the STREET)", () -> {
      PaidElsewhere x = new PaidElsewhere();
      Towns.lastPair(x);
      // HASTE is 100 of two by street 5, and 52 by street 0
      int[] ps = {75, 65, 5, 70, 60, 72}, due = {810, 1000, 1000, 898, 898, 1000};
      for (int i = 0; i < ps.length; i++) due(x.exactly(ps[i], 90, 1), due[i]);
      for (int i : new int[] {76, 79, 80, 85}) due(x.exactly(i, 90, 1), BAD);
    });
    edge(12, "EXACTLY behind ROUNDS (0 .. 60). BAD.", () -> {
      for (int s : new int[] {-1, 100, LOW, HIGH}) refused(Towns::rich, BAD, x -> x.exactly(0, s, 5));
      for (int ps : NO_PAIR) refused(Towns::rich, BAD, x -> x.exactly(ps, 5, 5));
      refused(Towns::nothing, BAD, x -> x.exactly(0, 0, 0));
      for (int s : new int[] {0, 99}) due(harms(3).exactly(0, s, 1), 0);
    });
  }
}
