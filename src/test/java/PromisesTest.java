/** Each promise of the document, by hand: ordinary inputs, the edges that it names, wrong inputs. */
public final class PromisesTest {
  private static final int BAD = -1, NOT = -2, FULL = -3, STATE = -5, VOID = -2000000000;
  private static int promise = 0, step = 0, wrong = 0;

  private static void due(long got, long want) {
    step++;
    if (got == want) return;
    wrong++;
    System.out.println("promise " + promise + ", step " + step + ": answered " + got + ", due is " + want);
  }

  private static PaidElsewhere on(int number) {
    promise = number;
    step = 0;
    return new PaidElsewhere();
  }

  /** tp of a window. */
  private static int tp(int tune, int purse) { return 1000 * (tune + 99) + purse; }

  private static void feed(PaidElsewhere x, String text) {
    for (int i = 0; i < text.length(); i++) x.feed(1, text.charAt(i));
  }

  private static int law(PaidElsewhere x, String text) {
    feed(x, text);
    return x.law();
  }

  public static void main(String[] args) {
    figures();
    figuresTold();
    once();
    waiting();
    tape();
    weeks();
    ways();
    thoughts();
    rounds();
    bestByPaying();
    funds();
    others();
    changes();
    acts();
    shelves();
    shelvesMoved();
    if (wrong > 0) {
      System.out.println(wrong + " answers are not as due");
      System.exit(1);
    }
    System.out.println("all promises answer as due");
  }

  private static void figures() {
    PaidElsewhere x = on(1);
    for (int what = 0; what <= 6; what++) due(x.count(what), 0);
    due(x.of(0, 0), VOID);
    due(x.judge(), NOT);
    due(x.element(0, 0), Long.MIN_VALUE);
    due(x.put(0, 0, 0), -11);

    x = on(2);
    due(x.street(-1, 0), BAD);
    due(x.street(100, 0), BAD);
    due(x.street(0, -1), BAD);
    due(x.street(0, 100), BAD);
    due(x.count(0), 0);
    due(x.street(99, 0), 0);
    due(x.street(0, 99), 1);
    for (int k = 2; k < 6; k++) due(x.street(k, k), k);
    due(x.street(0, 0), FULL);
    due(x.street(100, 0), BAD);
    due(x.of(0, 20), 99);
    due(x.of(1, 21), 99);
    due(x.of(5, 22), 0);

    x = on(3);
    due(x.window(0, 0), BAD);
    x.street(1, 1);
    due(x.window(99, tp(-99, 999)), 0);
    due(x.window(0, tp(99, 0)), 1);
    due(x.window(100, 0), BAD);
    due(x.window(-1, 0), BAD);
    due(x.window(-100, 0), BAD);
    due(x.window(0, 199000), BAD);
    due(x.window(0, -1), BAD);
    due(x.window(Integer.MAX_VALUE, Integer.MAX_VALUE), BAD);
    due(x.window(Integer.MIN_VALUE, Integer.MIN_VALUE), BAD);
    for (int w = 2; w < 30; w++) due(x.window(w, tp(w, w)), w);
    due(x.window(0, 0), FULL);
    due(x.window(600, 0), BAD);
    due(x.of(0, 11), 99);
    due(x.of(0, 12), -99);
    due(x.of(0, 13), 999);
    due(x.of(1, 12), 99);

    x = on(5);
    due(x.player(0, 0, 0), BAD);
    due(x.player(1099, 100, -1), 0);
    due(x.player(1100, 0, -1), BAD);
    due(x.player(-1, 0, -1), BAD);
    due(x.player(0, -1, -1), BAD);
    due(x.player(0, 101, -1), BAD);
    due(x.player(0, 0, -2), BAD);
    x.street(9, 9);
    due(x.player(307, 20, 0), 1);
    due(x.player(0, 0, 1), BAD);
    for (int p = 2; p < 8; p++) due(x.player(0, 0, -1), p);
    due(x.player(0, 0, -1), FULL);
    due(x.player(0, 0, 1), BAD);
    due(x.count(2), 8);
  }

  private static void figuresTold() {
    PaidElsewhere x = on(4);
    x.street(0, 0);
    x.street(0, 0);
    due(x.windows(6, 0, 1), BAD);
    due(x.windows(-1, 0, 1), BAD);
    due(x.windows(6, -1, 1), BAD);
    due(x.windows(0, 0, 0), BAD);
    due(x.windows(0, -1, 0), BAD);
    due(x.windows(0, 0, 16), BAD);
    due(x.windows(0, 0, 15), 0);
    due(x.windows(0, -1, 1), 0);
    due(x.windows(0, Integer.MIN_VALUE, 15), 0);
    x.row(0, 2, 4);
    due(x.windows(0, 0, 1), -12);
    due(x.windows(0, -1, 1), -12);
    x.body(0);
    x.keep(1, 0);
    due(x.windows(1, 0, 1), -12);
    due(x.windows(1, -1, 1), -12);
    x.row(2, 1, 15);
    long[] told = {7, 1, 20, -99, 999, 0, 99, 99, 0, 2, 0, 0, 0, 1, 1};
    for (int i = 0; i < told.length; i++) x.put(2, i, told[i]);
    due(x.windows(2, 1, 15), 2);
    due(x.of(0, 10), 1);
    due(x.of(0, 11), 20);
    due(x.of(0, 12), -99);
    due(x.of(0, 13), 999);
    due(x.of(1, 10), 0);
    due(x.windows(2, 1, 1), 1);
    due(x.windows(2, 13, 1), 0);
    due(x.windows(2, Integer.MAX_VALUE, 15), 0);
    due(x.windows(2, -1, 15), 0);
    due(x.windows(2, -3, 15), 0);
    due(x.windows(2, Integer.MIN_VALUE, 15), 0);
    due(x.windows(2, 11, 2), 1);
    due(x.windows(2, 12, 1), 0);
    due(x.count(1), 4);
    x.row(3, 1, 60);
    due(x.windows(3, 0, 15), 15);
    due(x.windows(3, 0, 15), 11);
    due(x.windows(3, 0, 1), 0);
    due(x.count(1), 30);

    x = on(6);
    x.street(40, 5);
    x.window(10, tp(-3, 4));
    due(x.mend(0, 0, 99), 10);
    due(x.mend(0, 0, 0), 99);
    due(x.mend(0, 1, -99), -3);
    due(x.mend(0, 1, 99), -99);
    due(x.mend(0, 2, 0), 40);
    due(x.mend(0, 2, 99), 0);
    due(x.mend(0, 0, 100), VOID);
    due(x.mend(0, 0, -1), VOID);
    due(x.mend(0, 1, 100), VOID);
    due(x.mend(0, 1, -100), VOID);
    due(x.mend(0, 2, 100), VOID);
    due(x.mend(0, 2, -1), VOID);
    due(x.mend(1, 0, 0), VOID);
    due(x.mend(-1, 1, 0), VOID);
    due(x.mend(1, 2, 0), VOID);
    due(x.mend(0, 3, 0), VOID);
    due(x.mend(0, -1, 0), VOID);
    due(x.of(0, 11), 0);
    due(x.of(0, 12), 99);
    due(x.of(0, 20), 99);

    x = on(7);
    due(x.pay(0, 0), BAD);
    x.street(1, 1);
    due(x.pay(0, 499), 0);
    due(x.pay(0, 0), 499);
    due(x.pay(0, 500), BAD);
    due(x.pay(0, -1), BAD);
    due(x.pay(-1, 0), BAD);
    due(x.pay(0, 7), 0);
    due(x.pay(0, 7), 7);

    x = on(8);
    x.street(40, 12);
    x.street(41, 13);
    x.window(155, tp(-7, 321));
    x.window(100, tp(0, 0));
    x.player(709, 33, -1);
    x.pay(1, 234);
    int[] player = {7, 9, 33, -1}, window = {1, 55, -7, 321}, street = {41, 13, 234, 2};
    for (int i = 0; i < 4; i++) {
      due(x.of(0, i), player[i]);
      due(x.of(0, 10 + i), window[i]);
      due(x.of(1, 20 + i), street[i]);
    }
    due(x.of(0, 23), 0);
    due(x.of(1, 0), VOID);
    due(x.of(-1, 0), VOID);
    due(x.of(2, 10), VOID);
    due(x.of(2, 20), VOID);
    due(x.of(-1, 20), VOID);
    for (int what : new int[] {-1, 4, 9, 14, 19, 24}) due(x.of(0, what), VOID);
  }

  private static void once() {
    PaidElsewhere x = on(9);
    x.street(0, 0);
    x.window(8, tp(-5, 0));
    x.window(8, tp(5, 0));
    x.player(300, 0, 0);
    x.player(1000, 0, 0);
    due(x.harm(0), 9);
    due(x.harm(1), 7);
    due(x.harm(100), 13);
    due(x.harm(101), 3);
    due(x.harm(2), VOID);
    due(x.harm(200), VOID);
    due(x.harm(-1), VOID);
    due(x.harm(Integer.MIN_VALUE), VOID);

    x = on(10);
    x.street(30, 0);
    x.street(20, 0);
    x.street(0, 0);
    x.window(20, tp(0, 0));
    x.window(0, tp(99, 0));
    x.window(0, tp(10, 0));
    x.window(105, tp(0, 0));
    x.window(111, tp(0, 0));
    x.player(1010, 0, -1);
    due(x.once(0, 0), 20 - 99 - 10);
    due(x.once(0, 1), 21);
    due(x.once(0, 2), 20);
    due(x.once(0, 3), NOT);
    due(x.once(1, 1), 11);
    due(x.once(1, 2), 16);
    due(x.once(1, 3), 13);
    due(x.once(2, 1), 1);
    due(x.once(2, 2), 0);
    due(x.once(2, 3), NOT);
    x.mend(2, 0, 11);
    due(x.once(0, 2), 21);
    due(x.once(0, 3), 21);
    due(x.once(0, 4), VOID);
    due(x.once(0, -1), VOID);
    due(x.once(3, 0), VOID);
    due(x.once(10, 0), VOID);
    due(x.once(-1, 0), VOID);
  }

  private static void waiting() {
    PaidElsewhere x = on(11);
    x.street(0, 0);
    x.street(0, 0);
    x.window(10, tp(0, 0));
    x.window(0, tp(50, 0));
    x.window(40, tp(0, 0));
    x.window(100, tp(0, 0));
    x.player(1000, 0, -1);
    // HASTE of windows 0 and 2 by s 90: 10 of 100, 40 of 130
    int[] haste = {100, -1, 307};
    for (int seed = -3; seed < 4; seed++) {
      int z = seed, round = NOT, window = NOT;
      for (int r = 0; r < 3 && window == NOT; r++) {
        for (int w = 0; w < 3 && window == NOT; w += 2) {
          z = z * 1103515245 + 12345;
          if ((z >>> 8) % 1000 < haste[w]) { round = r; window = w; }
        }
      }
      due(x.waiting(0, 90, seed, 30), round);
      due(x.waiting(0, 90, seed, 31), window);
      due(x.waiting(0, 90, seed, 32), 50 * (window == NOT ? 3 : round));
    }
    due(x.waiting(1, 90, 0, 30), NOT);
    due(x.waiting(1, 90, 0, 31), NOT);
    due(x.waiting(1, 90, 0, 32), 0);
    due(x.waiting(0, 0, 0, 10), 0);
    due(x.waiting(0, 0, 0, 602), 0);
    due(x.waiting(0, -1, 0, 10), BAD);
    due(x.waiting(0, 100, 0, 10), BAD);
    due(x.waiting(0, 0, 0, 9), BAD);
    due(x.waiting(0, 0, 0, 13), BAD);
    due(x.waiting(0, 0, 0, 610), BAD);
    due(x.waiting(0, 0, 0, -10), BAD);
    due(x.waiting(2, 0, 0, 10), BAD);
    due(x.waiting(10, 0, 0, 10), BAD);
    due(x.waiting(-1, 0, 0, 10), BAD);

    x = on(12);
    x.street(0, 0);
    x.street(0, 0);
    x.window(10, tp(0, 0));
    x.window(0, tp(50, 0));
    x.window(40, tp(0, 0));
    x.player(1000, 0, -1);
    due(x.exactly(0, 90, 0), 1000);
    due(x.exactly(0, 90, 1), 623);
    due(x.exactly(0, 90, 2), 389);
    due(x.exactly(0, 0, 1), 0);
    due(x.exactly(1, 0, 60), 1000);
    due(x.exactly(0, 90, -1), BAD);
    due(x.exactly(0, 90, 61), BAD);
    due(x.exactly(0, 100, 1), BAD);
    due(x.exactly(0, -1, 1), BAD);
    due(x.exactly(2, 1, 1), BAD);
    due(x.exactly(10, 1, 1), BAD);
    due(x.exactly(-1, 1, 1), BAD);
  }

  private static void tape() {
    PaidElsewhere x = on(13);
    due(x.feed(0, 'z'), BAD);
    due(x.feed(5, 'z'), BAD);
    due(x.feed(2, 't' + ('-' << 8) + ('?' << 16)), 2);
    due(x.feed(1, 'c'), 3);
    due(x.law(), 1);
    for (int i = 1; i < 30; i++) due(x.feed(4, 0x31313131), 4 * i);
    due(x.feed(1, '1'), 117);
    due(x.feed(4, 0), FULL);
    due(x.count(3), 117);
    due(x.feed(3, '1'), 120);
    due(x.feed(1, 0), FULL);
    due(x.feed(5, 0), BAD);

    x = on(14);
    due(law(x, ""), -100);
    due(x.count(3), 0);
    String[] good = {"0", "1234", "t", "t;c", "t?c", "1<2|3=4&5>6", "t-c+p*h/n%g-k+s", "!!!---1", "((((((1))))))",
        "!(-(!(1)))", "(1)+(2)+(3)+(4)+(5)+(6)+(7)", "-1--1", "(1<2)<3", "(t)", "0000"};
    for (String text : good) due(law(x, text), 1);
    String[] faulty = {"z", "12345", "tt", "t c", "1<2<3", "1?2?3", "(1?2)", "(1;2)", ")", "(1))", "+1", "1;?", "1;;1",
        "!!!!!!!1", "(((((((1", "1(2)", "T", "1=>2", "!((((((1", "1\u00ff"};
    int[] place = {0, 4, 1, 1, 3, 3, 2, 2, 0, 3, 0, 2, 2, 6, 6, 1, 0, 2, 6, 1};
    for (int i = 0; i < faulty.length; i++) due(law(x, faulty[i]), -100 - place[i]);
    String[] early = {"1+", "(1", "((1)", "t?", "t;", "!", "-", "1<", "1&", "(", "((((((1)))))"};
    for (String text : early) due(law(x, text), -100 - text.length());
    due(law(x, "1" + "+1".repeat(59)), 1);
    due(law(x, "1" + "+1".repeat(59) + "+"), -220);
    due(x.count(3), 0);
    worth();
  }

  /** What a text is worth, seen by whether the one player goes: it is compared with what it should be. */
  private static void worth() {
    String[][] same = {{"2+3*4", "14"}, {"(2+3)*4", "20"}, {"7-2-1", "4"}, {"20/3/2", "3"}, {"-7/2", "-3"}, {"-7%4", "-3"},
        {"7/0", "0"}, {"7%0", "0"}, {"1<2", "1"}, {"2<1", "0"}, {"2>1", "1"}, {"2=2", "1"}, {"5|0", "1"}, {"0|0", "0"},
        {"5&6", "1"}, {"5&0", "0"}, {"!5", "0"}, {"!0", "1"}, {"!-1+1", "1"}, {"1|0&0", "1"}, {"0&0|1", "1"}, {"1+1=2", "1"},
        {"2-1<1+1", "1"}, {"1<2&3<2", "0"}, {"-2*3", "-6"}, {"9999*9999*9999*9999/9999", "-5714"}, {"2<2", "0"}, {"2>2", "0"},
        {"2>3", "0"}, {"1&1", "1"}, {"5--1", "6"}, {"5-!0", "4"}, {"1-!1-0", "1"}, {"3*-2+9", "3"}, {"t", "40"}, {"c", "9"},
        {"p", "0"}, {"h", "33"}, {"n", "2"}, {"g", "7"}, {"k", "1"}, {"s", "1"}};
    PaidElsewhere x = new PaidElsewhere();
    x.street(0, 0);
    x.street(40, 12);
    x.player(709, 33, 1);
    x.player(709, 33, 1);
    for (String[] one : same) {
      String as = "9999*9999*9999*9999/9999".equals(one[0]) ? "" + 9999 * 9999 * 9999 * 9999 / 9999 : one[1];
      String value = as.startsWith("-") ? "0-" + as.substring(1) : as;
      String text = value.length() > 5 ? "k" : "k?(" + one[0] + ")=(" + value + ")";
      due(law(x, text), 1);
      due(x.weeks(1, 0), 2);
      due(x.week(0, 0), 1);
    }
    // the first line without a first part, or whose first part is not 0, counts; none: 0
    String[] lines = {"0?k;k=0", "1?k;k=0", "0?k;0?k", "k;k=0", "k-1?k=0;k"};
    int[] goesTo = {0, 1, -1, 1, 0};
    for (int i = 0; i < lines.length; i++) {
      due(law(x, lines[i]), 1);
      x.weeks(1, 0);
      due(x.week(0, 0), goesTo[i]);
    }
    due(law(x, "?"), -100);
    x.weeks(1, 0);
    due(x.week(0, 0), 0);
  }

  private static void weeks() {
    PaidElsewhere x = on(15);
    due(x.weeks(1, 0), 0);
    due(x.weeks(0, 0), BAD);
    due(x.weeks(61, 0), BAD);
    due(x.weeks(60, 2), BAD);
    due(x.weeks(60, -1), BAD);
    // without a text: TAKE less COST less 10 n: two alike flee from one another's street, together
    x.street(30, 0);
    x.street(25, 0);
    x.player(0, 0, 0);
    x.player(0, 0, 0);
    due(x.weeks(1, 0), 2);
    due(x.week(0, 0), 1);
    due(x.of(0, 3), 0);
    due(x.weeks(2, 0), 2);
    due(x.week(1, 0), 0);
    due(x.weeks(59, 1), 2);
    due(x.of(1, 3), 1);
    due(x.weeks(60, 1), 2);
    due(x.of(1, 3), 1);
    // of like ones the least number; 0 is not above 0
    x.mend(1, 2, 30);
    due(law(x, "t"), 1);
    x.weeks(3, 0);
    due(x.week(0, 0), 0);
    due(law(x, "0"), 1);
    due(x.weeks(3, 1), 0);
    due(x.of(0, 3), -1);

    x = on(16);
    due(x.week(0, 0), VOID);
    due(x.week(0, 4), VOID);
    x.street(20, 0);
    x.street(0, 0);
    x.window(15, tp(10, 0));
    x.player(505, 0, -1);
    x.player(1005, 0, -1);
    x.player(3, 0, -1);
    x.player(99, 0, -1);
    due(law(x, "t-c"), 1);
    due(x.weeks(10, 0), 3);
    due(x.week(0, 0), 0);
    due(x.week(3, 0), -1);
    due(x.week(0, 1), 150);
    due(x.week(2, 1), 170);
    due(x.week(3, 1), 0);
    due(x.week(0, 2), 10 * (10 + 5 + 15));
    due(x.week(1, 2), 0);
    due(x.week(0, 3), 3);
    due(x.week(1, 3), 0);
    due(x.week(0, 4), 2);
    due(x.week(1, 4), -1);
    due(x.week(4, 0), VOID);
    due(x.week(2, 2), VOID);
    due(x.week(-1, 0), VOID);
    due(x.week(-1, 2), VOID);
    due(x.week(0, 5), VOID);
    due(x.week(0, -1), VOID);
    // the latest weeks are those that weeks() told: later streets, players and thoughts have no part in them
    x.street(99, 0);
    x.player(0, 0, -1);
    x.mend(0, 2, 1);
    x.best(0, 5, 0);
    due(x.week(2, 3), VOID);
    due(x.week(4, 1), VOID);
    due(x.week(2, 1), 170);
    due(x.week(0, 3), 3);
    due(x.weeks(0, 0), BAD);
    due(x.week(0, 1), 150);
    // of like ones the first is led
    x = new PaidElsewhere();
    x.street(20, 0);
    x.player(5, 0, 0);
    x.player(5, 0, 0);
    x.weeks(1, 0);
    due(x.week(0, 4), -1);
    due(law(x, "t"), 1);
    x.weeks(1, 0);
    due(x.week(0, 4), 0);
  }

  /** The ways of paying, by players of GOOD 2, 9, 9 with COST 1, 2, 3 who all stay; TAKE 10, a window of 8. */
  private static void ways() {
    int[][] due = {
      // way and sum, law of quiet, COST, EARNED of each, in four weeks
      {0, 5, 4 * 3 * 8, 36, 32, 28},
      {107, 5, 4 * 21, 24, 20, 16},
      {207, 5, 4 * 15, 4 * 16, -8, -12},
      {300, 5, 4 * 15, -4, -8, -12},
      {399, 0, 4 * 24, 36, 32, 28},
      {407, 5, 4 * 15, -4, 4 * 15, -12},
    };
    for (int[] one : due) {
      PaidElsewhere x = on(15);
      x.street(10, one[1]);
      x.window(8, tp(0, 0));
      x.player(201, 0, -1);
      x.player(902, 0, -1);
      x.player(903, 0, -1);
      due(law(x, "1"), 1);
      x.pay(0, one[0]);
      due(x.weeks(4, 0), 3);
      due(x.week(0, 2), one[2]);
      for (int p = 0; p < 3; p++) due(x.week(p, 1), one[3 + p]);
    }
    // what was paid in the week ahead, to all; before the first nothing
    int[] paidAhead = {0, 14, 7, 0, 7};
    for (int way = 0; way < 5; way++) {
      PaidElsewhere x = on(15);
      x.street(10, 0);
      x.player(0, 0, 0);
      x.player(0, 0, 0);
      x.pay(0, 100 * way + 7);
      due(law(x, "p=0"), 1);
      due(x.weeks(1, 0), 2);
      due(law(x, "p=" + paidAhead[way] + "|n=0"), 1);
      due(x.weeks(1, 0), paidAhead[way] == 0 ? 2 : 0);
      due(law(x, "p=0|p=" + paidAhead[way]), 1);
      due(x.weeks(2, 0), 2);
    }
  }

  private static void thoughts() {
    PaidElsewhere x = on(17);
    x.street(10, 0);
    x.window(8, tp(0, 0));
    x.player(0, 0, 0);
    x.player(0, 0, 0);
    x.pay(0, 499);
    due(law(x, "1"), 1);
    due(x.best(0, 5, 0), 100);
    due(x.best(0, 5, 1), 0);
    due(law(x, "10-p"), 1);
    // lovers of a tune: the least COST is to let all play
    x.mend(0, 1, 99);
    x.mend(0, 0, 0);
    x.player(1000, 0, 0);
    due(x.best(0, 3, 0), 0);
    due(x.best(0, 3, 1), -297);
    // one who plays alone, loved, at a sum
    x.mend(0, 0, 99);
    due(x.best(0, 3, 0), 100);
    x.mend(0, 0, 98);
    due(x.best(0, 3, 0), 400);
    due(x.best(0, 3, 1), -3);
    due(x.of(0, 22), 499);
    due(x.best(1, 1, 0), VOID);
    due(x.best(-1, 1, 0), VOID);
    due(x.best(0, 0, 0), VOID);
    due(x.best(0, 61, 0), VOID);
    due(x.best(0, 1, 2), VOID);
    due(x.best(0, 1, -1), VOID);
    due(x.week(0, 0), VOID);

    x = on(18);
    x.street(10, 0);
    x.player(0, 0, 0);
    x.player(0, 0, -1);
    due(law(x, "p"), 1);
    due(x.called(0, 1), 0);
    due(law(x, "s+p"), 1);
    x.pay(0, 150);
    due(x.called(0, 1), 0);
    due(x.called(0, 2), 1);
    due(law(x, "!p"), 1);
    due(x.called(0, 2), -2);
    due(x.called(0, 3), 0);
    due(x.called(1, 1), VOID);
    due(x.called(-1, 1), VOID);
    due(x.called(0, 0), VOID);
    due(x.called(0, 61), VOID);

    x = on(19);
    x.street(10, 0);
    x.player(0, 0, 0);
    x.player(0, 0, 0);
    due(law(x, "20-p"), 1);
    due(x.off(0, 2), 20);
    due(x.off(0, 1), NOT);
    due(law(x, "99-p"), 1);
    due(x.off(0, 2), 99);
    due(law(x, "100-p"), 1);
    due(x.off(0, 2), NOT);
    due(law(x, "0"), 1);
    due(x.off(0, 60), 0);
    due(x.off(1, 1), BAD);
    due(x.off(-1, 1), BAD);
    due(x.off(0, 0), BAD);
    due(x.off(0, 61), BAD);
    due(x.of(0, 22), 0);
  }

  /** Weeks that go in a round: what comes of them is that of all weeks, not of one round. */
  private static void rounds() {
    // player 0 comes to street 0 whenever it was not there; player 1 never comes
    for (int n = 1; n <= 60; n++) {
      PaidElsewhere x = on(15);
      x.street(20, 0);
      x.street(30, 0);
      x.window(7, tp(0, 0));
      x.window(105, tp(0, 0));
      x.player(3, 0, -1);
      x.player(0, 0, 1);
      due(law(x, "c=0?0;k=0?s=0;0"), 1);
      x.weeks(n, 0);
      due(x.week(0, 0), n % 2 == 1 ? 0 : -1);
      int times = (n + 1) / 2;
      due(x.week(0, 1), times * 17);
      due(x.week(0, 2), times * 7);
      due(x.week(1, 1), 0);
      due(x.week(1, 2), 0);
    }
    // it comes in the first week, as nothing was paid ahead of it; then it is the week ahead that counts
    for (int n = 1; n <= 60; n++) {
      PaidElsewhere x = on(15);
      x.street(0, 0);
      x.street(0, 0);
      x.player(0, 0, 0);
      x.pay(0, 109);
      due(law(x, "k=0?p=0;n=0"), 1);
      x.weeks(n, 0);
      due(x.week(0, 0), n % 2 == 1 ? 0 : 1);
      due(x.week(0, 1), 9 * ((n + 1) / 2));
    }
    // without a text two flee together from where they were
    for (int n = 1; n <= 60; n++) {
      PaidElsewhere x = on(15);
      x.street(30, 0);
      x.street(25, 0);
      x.player(0, 0, -1);
      x.player(0, 0, -1);
      due(x.weeks(n, 0), 2);
      due(x.week(0, 0), n % 2 == 1 ? 0 : 1);
      due(x.week(0, 1), (n + 1) / 2 * 30 + n / 2 * 25);
    }
    // 10 for each one there outweighs 9 of TAKE
    PaidElsewhere x = on(15);
    x.street(30, 0);
    x.street(21, 0);
    x.player(0, 0, 0);
    x.weeks(1, 0);
    due(x.week(0, 0), 1);
    // what is kept is of the latest weeks alone
    due(x.week(0, 1), 21);
    x.weeks(1, 0);
    due(x.week(0, 1), 21);
  }

  private static void bestByPaying() {
    // a loved one comes once unpaid, and again only if somebody was paid
    PaidElsewhere x = on(17);
    x.street(0, 0);
    x.street(0, 0);
    x.window(100, tp(50, 0));
    x.player(1000, 0, -1);
    due(law(x, "k=0?0;n=0?1;p"), 1);
    due(x.best(1, 1, 0), 0);
    due(x.best(1, 1, 1), -50);
    due(x.best(1, 2, 0), 210);
    due(x.best(1, 2, 1), -80);
    // only 90 makes it stay, which is dear unless it is loved much; 490 is as good as 290, but comes later
    due(law(x, "k=0?0;n=0?1;p>89"), 1);
    x.window(100, tp(99, 0));
    due(x.best(1, 60, 0), 0);
    due(x.best(1, 60, 1), 30 * -149);
    x.mend(0, 1, 99);
    due(x.best(1, 60, 0), 290);
    due(x.best(1, 60, 1), 60 * (90 - 198));
    // the sum that was told, and the way: both count in thought; others' ways, too
    x = on(18);
    x.street(0, 0);
    x.street(0, 0);
    x.player(0, 0, -1);
    x.player(0, 0, -1);
    due(law(x, "k=0?0;n=0?1;p=150"), 1);
    x.pay(1, 175);
    due(x.called(1, 1), 0);
    due(x.called(1, 2), 2);
    x.pay(1, 176);
    due(x.called(1, 2), 0);
    x.pay(1, 275);
    due(x.called(1, 2), 0);
    due(law(x, "k=0?0;n=0?1;p=75"), 1);
    due(x.called(1, 2), 2);
    due(x.called(0, 2), 0);
    // off: one may be there
    x = on(19);
    x.street(0, 0);
    x.player(0, 0, -1);
    x.player(5, 0, -1);
    due(law(x, "n=0|c=0|p<7"), 1);
    due(x.off(0, 2), 7);
    due(x.of(0, 3), -1);
  }

  /** The same for other players and streets than the first ones. */
  private static void others() {
    PaidElsewhere x = on(9);
    for (int k = 0; k < 6; k++) x.street(10 * k, 90 - k);
    for (int w = 0; w < 12; w++) x.window(100 * (w % 6) + 5 * w, tp(-w, 10));
    for (int p = 0; p < 8; p++) x.player(100 * p + 5 * p, 0, -1);
    for (int p = 0; p < 8; p++) {
      for (int w = 0; w < 12; w++) due(x.harm(100 * p + w), 5 * w + w * p / 10);
      for (int k = 0; k < 6; k++) {
        int harm = 5 * k + k * p / 10 + 5 * (k + 6) + (k + 6) * p / 10;
        int least = Math.max(10 * k - 5 * p, 0) + 1, most = harm;
        int bargain = most >= least ? (least + most) / 2 : NOT, ps = 10 * p + k;
        promise = 10;
        due(x.once(ps, 0), harm);
        due(x.once(ps, 1), least);
        due(x.once(ps, 2), most);
        due(x.once(ps, 3), bargain);
        promise = 11;
        due(x.waiting(ps, 0, 7, 10), 0);
        due(x.waiting(ps, 0, 7, 11), k == 0 ? 6 : k);
        promise = 12;
        due(x.exactly(ps, 0, 1), 0);
        promise = 20;
        due(x.fund(ps, harm, 0), 5 * k + k * p / 10);
        due(x.fund(ps, harm, 1), harm - 5 * k - k * p / 10);
        due(x.fund(ps, harm, -2), 0);
        due(x.fund(ps, 0, 2), BAD);
        promise = 21;
        due(x.fetch(ps), bargain == NOT ? NOT : 90 - k < bargain ? 1 : 0);
        promise = 22;
        int mostByGood = 5 * k + k + 5 * (k + 6) + k + 6;
        due(x.worse(ps) == NOT ? 0 : 1, mostByGood >= least ? 1 : 0);
        promise = 23;
        due(x.lovers(ps, 0), 0);
      }
    }
    promise = 3;
    due(x.window(-1, 0), BAD);
    due(x.window(0, -1), BAD);
    promise = 5;
    for (int p = 0; p < 8; p++) due(x.of(p, 0), p);
    // a window without HARM is none that would pay, and one of 1 is
    x = on(11);
    x.street(0, 0);
    x.window(0, tp(0, 0));
    x.window(1, tp(0, 0));
    x.player(0, 0, -1);
    due(x.waiting(0, 99, 0, 11), 1);
    due(x.waiting(0, 99, 0, 602), 0);
    promise = 12;
    due(x.exactly(0, 99, 1), 0);
    promise = 20;
    due(x.fund(0, 5, 0), 0);
    due(x.fund(0, 5, 1), 5);
    due(x.fund(0, 5, -2), 2);
    due(x.fund(0, 0, -1), 1);
    x.mend(0, 0, 1);
    due(x.fund(0, 3, 0), 2);
    due(x.fund(0, 3, -2), 1);
    due(x.fund(0, 1, -1), 0);
    promise = 13;
    for (int n = 1; n <= 4; n++) {
      PaidElsewhere y = new PaidElsewhere();
      due(y.feed(n, 0xffffffff), n);
      due(y.law(), -100);
      due(y.feed(4, 'n' | '=' << 8 | 'p' << 16 | 0x80 << 24), 4);
      due(y.law(), -103);
    }
  }

  private static void funds() {
    PaidElsewhere x = on(20);
    x.street(0, 0);
    x.street(0, 0);
    x.window(0, tp(20, 0));
    x.window(110, tp(0, 99));
    x.window(10, tp(0, 9));
    x.window(20, tp(0, 99));
    x.player(1000, 0, -1);
    int[] parts = {0, 4, 7};
    for (int i = 0; i < 3; i++) due(x.fund(0, 11, i), parts[i]);
    due(x.fund(0, 11, -1), 1);
    due(x.fund(0, 11, -2), 0);
    due(x.fund(0, 29, 1), 10);
    due(x.fund(0, 29, -1), 0);
    due(x.fund(0, 29, -2), 0);
    due(x.fund(0, 31, -2), 2);
    due(x.fund(0, 33, -2), 6);
    due(x.fund(0, 33, -1), 0);
    due(x.fund(1, 10, 0), 10);
    due(x.fund(1, 10, -1), 1);
    due(x.fund(0, 11, 3), BAD);
    due(x.fund(0, 11, -3), BAD);
    due(x.fund(0, -1, 0), BAD);
    due(x.fund(0, 10000, 0), BAD);
    due(x.fund(0, 9999, 0), 0);
    due(x.fund(2, 1, 0), BAD);
    due(x.fund(10, 1, 0), BAD);
    due(x.fund(-1, 1, 0), BAD);
    x.mend(1, 0, 0);
    due(x.fund(1, 50, 0), 0);
    due(x.fund(1, 50, -1), 1);
    due(x.fund(1, 50, -2), 0);

    x = on(21);
    x.street(0, 5);
    x.street(0, 0);
    x.street(99, 5);
    x.window(9, tp(0, 0));
    x.window(150, tp(0, 0));
    x.player(0, 0, -1);
    due(x.fetch(0), 0);
    x.mend(0, 0, 11);
    due(x.fetch(0), 1);
    due(x.fetch(1), NOT);
    due(x.fetch(2), NOT);
    due(x.fetch(3), BAD);
    due(x.fetch(10), BAD);
    due(x.fetch(-1), BAD);

    x = on(22);
    x.street(0, 0);
    x.street(99, 0);
    x.window(10, tp(-20, 0));
    x.window(50, tp(50, 0));
    x.window(0, tp(20, 0));
    x.player(0, 0, -1);
    due(x.worse(0), 0);
    x.mend(1, 1, 10);
    due(x.worse(0), 9);
    x.mend(1, 1, 0);
    due(x.worse(0), 10);
    due(x.worse(1), NOT);
    due(x.worse(2), BAD);
    due(x.worse(10), BAD);
    due(x.worse(-1), BAD);

    x = on(23);
    x.street(20, 0);
    x.window(0, tp(10, 0));
    x.window(50, tp(0, 0));
    x.window(0, tp(11, 0));
    x.player(1000, 0, -1);
    due(x.lovers(0, 0), 21);
    due(x.lovers(0, 1), 1);
    x.mend(0, 1, 9);
    due(x.lovers(0, 0), 20);
    due(x.lovers(0, 1), 0);
    due(x.lovers(0, 2), BAD);
    due(x.lovers(0, -1), BAD);
    due(x.lovers(1, 0), BAD);
    due(x.lovers(10, 0), BAD);
    due(x.lovers(-1, 0), BAD);

    x = on(24);
    due(x.judge(), NOT);
    x.street(0, 0);
    x.street(0, 0);
    due(x.judge(), NOT);
    x.window(100, tp(0, 20));
    x.window(100, tp(0, 30));
    x.pay(1, 150);
    due(x.judge(), NOT);
    x.pay(1, 51);
    due(x.judge(), 1);
    x.pay(0, 201);
    due(x.judge(), 0);
  }

  private static void changes() {
    PaidElsewhere x = on(25);
    due(x.undo(), STATE);
    x.street(10, 0);
    x.window(20, tp(30, 0));
    x.mend(0, 2, 11);
    x.mend(0, 0, 21);
    x.mend(0, 1, 31);
    x.mend(0, 1, 31);
    due(x.count(4), 3);
    due(x.undo(), 2);
    due(x.of(0, 12), 30);
    due(x.undo(), 1);
    due(x.of(0, 11), 20);
    due(x.undo(), 0);
    due(x.of(0, 20), 10);
    due(x.undo(), STATE);
    for (int i = 0; i < 45; i++) x.mend(0, 0, i);
    due(x.count(4), 40);
    for (int i = 39; i >= 0; i--) due(x.undo(), i);
    due(x.undo(), STATE);
    due(x.of(0, 11), 4);

    x = on(26);
    due(x.redo(), STATE);
    x.street(10, 0);
    x.mend(0, 2, 11);
    x.mend(0, 2, 12);
    x.mend(0, 2, 13);
    due(x.redo(), STATE);
    x.undo();
    x.undo();
    x.undo();
    due(x.redo(), 2);
    due(x.of(0, 20), 11);
    due(x.mend(0, 2, 11), 11);
    due(x.mend(0, 2, 100), VOID);
    due(x.redo(), 1);
    due(x.of(0, 20), 12);
    due(x.mend(0, 2, 99), 12);
    due(x.redo(), STATE);
    due(x.undo(), 2);
    due(x.redo(), 0);
    due(x.of(0, 20), 99);
  }

  private static void acts() {
    PaidElsewhere x = on(27);
    due(x.body(-1), BAD);
    due(x.body(8), BAD);
    for (int i = 0; i < 50; i++) due(x.body(i % 8), i);
    due(x.body(0), FULL);
    due(x.body(8), BAD);
    due(x.count(5), 50);

    x = on(28);
    due(x.act(0, 0, 5), 0);
    for (int kind = 0; kind < 8; kind++) x.body(kind);
    // by kind: waits(5), pays(5), hears(5), tells(5), where the body's number is its kind
    int[][] due = {
      {5, 10, 5, 10 - 1},
      {9, 18, 4, 18 - 0},
      {7, -14, 7, -14 - 3},
      {12, 24, 18, 24 - 6},
      {9, -18, 1 - 6, -18 - (5 - 6)},
      {10, 20, 0, (20 - 4) ^ 5},
      {22, 44, 3, 44 - 7},
      {12, -24 + (5 - 9), 2 - 9, -24 + (5 - 9) - (6 - 9) - 1},
    };
    for (int kind = 0; kind < 8; kind++) for (int act = 0; act < 4; act++) due(x.act(kind, act, 5), due[kind][act]);
    due(x.act(1, 0, Integer.MAX_VALUE), Integer.MIN_VALUE + 3);
    due(x.act(0, 4, 5), 0);
    due(x.count(6), 0);
    x.act(0, 0, 1);
    due(x.act(0, -1, 5), 0);
    due(x.count(6), 0);
    x.act(0, 0, 1);
    due(x.act(8, 0, 5), 0);
    due(x.trace(0), BAD);
    due(x.act(-1, 0, 5), 0);

    x = on(29);
    due(x.trace(0), BAD);
    for (int kind = 0; kind < 8; kind++) x.body(kind);
    int[] standing = {81, 2, 80, 30, 10, 1, 50, 11, 1, 50, 11, 1};
    x.act(7, 3, 5);
    for (int i = 0; i < standing.length; i++) due(x.trace(i), standing[i]);
    due(x.trace(12), BAD);
    due(x.trace(-1), BAD);
    due(x.count(6), 12);
    int[] never = {2, 10, 41, 20, 1, 40, 11};
    x.act(3, 3, 5);
    for (int i = 0; i < never.length; i++) due(x.trace(i), never[i]);
    due(x.trace(7), BAD);
    int[] fetch = {60, 2, 10, 1, 11};
    x.act(5, 3, 5);
    for (int i = 0; i < fetch.length; i++) due(x.trace(i), fetch[i]);
    int[] told = {70, 1};
    x.act(6, 0, 5);
    for (int i = 0; i < told.length; i++) due(x.trace(i), told[i]);
    due(x.trace(2), BAD);
  }

  private static void shelves() {
    PaidElsewhere x = on(30);
    due(x.keep(0, 0), BAD);
    due(x.keep(0, -1), 1);
    x.body(3);
    due(x.keep(0, 0), 1);
    due(x.taken(0, 0), 3);
    due(x.keep(5, 0), 1);
    due(x.keep(6, 0), BAD);
    due(x.keep(-1, -1), BAD);
    due(x.keep(0, -2), BAD);
    due(x.keep(0, 1), BAD);
    due(x.keep(0, -1), 1);
    due(x.taken(0, 0), -11);

    x = on(31);
    due(x.row(0, 0, 60), 1);
    due(x.row(0, 0, 61), BAD);
    due(x.row(0, 5, 1), BAD);
    due(x.row(0, -1, 1), BAD);
    due(x.row(6, 0, 1), BAD);
    due(x.row(-1, 0, -1), BAD);
    due(x.row(0, 5, -1), BAD);
    due(x.row(0, 0, -1), -14);
    due(x.row(0, 0, Integer.MIN_VALUE), -14);
    due(x.element(0, 59), 0);
    x.put(0, 0, 7);
    due(x.row(0, 4, 1), 1);
    due(x.element(0, 0), 0);
    due(x.element(0, 1), Long.MIN_VALUE);
    due(x.row(0, 3, 0), 1);
    due(x.put(0, 0, 1), -13);

    x = on(32);
    long[] v = {128, 32768, 1L << 31, Long.MIN_VALUE + 1, -4};
    long[] kept = {-128, -32768, Integer.MIN_VALUE, Long.MIN_VALUE + 1, 1};
    for (int sort = 0; sort < 5; sort++) {
      x.row(sort, sort, 2);
      due(x.put(sort, 1, v[sort]), 1);
      due(x.element(sort, 1), kept[sort]);
      due(x.element(sort, 0), 0);
    }
    due(x.put(4, 0, 1L << 32), 1);
    due(x.element(4, 0), 1);
    due(x.put(4, 0, 0), 1);
    due(x.element(4, 0), 0);
    due(x.put(0, 0, -1), 1);
    due(x.element(0, 0), -1);
    due(x.put(0, 2, 0), -13);
    due(x.put(0, -1, 0), -13);
    due(x.put(5, 0, 0), -11);
    due(x.put(5, -1, 0), -11);
    x.body(0);
    x.keep(5, 0);
    due(x.put(5, 0, 0), -12);
    due(x.put(6, 0, 0), BAD);
    due(x.put(-1, 0, 0), BAD);

    x = on(33);
    x.row(0, 2, 3);
    x.put(0, 2, -77);
    due(x.element(0, 2), -77);
    due(x.element(0, 3), Long.MIN_VALUE);
    due(x.element(0, -1), Long.MIN_VALUE);
    due(x.element(1, 0), Long.MIN_VALUE);
    due(x.element(6, 0), Long.MIN_VALUE);
    due(x.element(-1, 0), Long.MIN_VALUE);
    x.body(0);
    x.keep(1, 0);
    due(x.element(1, 0), Long.MIN_VALUE);
  }

  private static void shelvesMoved() {
    PaidElsewhere x = on(34);
    x.row(0, 2, 5);
    x.row(1, 2, 3);
    x.row(2, 3, 5);
    for (int i = 0; i < 5; i++) x.put(0, i, 10 + i);
    due(x.shift(0, 3, 1, 1, 2), 2);
    due(x.element(1, 0), 0);
    due(x.element(1, 1), 13);
    due(x.element(1, 2), 14);
    due(x.shift(0, 0, 0, 1, 4), 4);
    int[] shifted = {10, 10, 11, 12, 13};
    for (int i = 0; i < 5; i++) due(x.element(0, i), shifted[i]);
    due(x.shift(0, 1, 0, 0, 4), 4);
    int[] back = {10, 11, 12, 13, 13};
    for (int i = 0; i < 5; i++) due(x.element(0, i), back[i]);
    due(x.shift(0, 5, 1, 3, 0), 0);
    due(x.shift(0, 6, 1, 0, 0), -13);
    due(x.shift(0, 0, 1, 2, 2), -13);
    due(x.shift(0, 4, 1, 0, 2), -13);
    due(x.shift(0, -1, 1, 0, 1), -13);
    due(x.shift(0, 0, 1, -1, 1), -13);
    due(x.shift(0, 0, 1, 0, -1), -13);
    due(x.shift(0, Integer.MAX_VALUE, 1, 0, Integer.MAX_VALUE), -13);
    due(x.shift(0, 0, 2, 0, 1), -12);
    due(x.shift(0, 9, 2, 0, 1), -12);
    due(x.shift(0, 0, 3, 0, 1), -11);
    due(x.shift(3, 0, 0, 0, 1), -11);
    x.body(0);
    x.keep(4, 0);
    due(x.shift(4, 0, 0, 0, 1), -12);
    due(x.shift(0, 0, 4, 0, 1), -12);
    due(x.shift(4, 0, 4, 0, 0), -12);
    due(x.shift(4, 0, 3, 0, 1), -11);
    due(x.shift(6, 0, 3, 0, 1), BAD);
    due(x.shift(3, 0, -1, 0, 1), BAD);

    x = on(35);
    int[] above = {-1, 0, 0, 1, 2, 0, 0, 4};
    for (int kind = 0; kind < 8; kind++) {
      x.body(kind);
      x.keep(0, kind);
      for (int k = 0; k < 8; k++) {
        boolean under = false;
        for (int up = kind; up >= 0; up = above[up]) under |= up == k;
        due(x.taken(0, k), under ? kind : -12);
      }
    }
    due(x.taken(1, 0), -11);
    x.row(1, 0, 1);
    due(x.taken(1, 0), -12);
    due(x.taken(0, 8), BAD);
    due(x.taken(0, -1), BAD);
    due(x.taken(6, 0), BAD);
    due(x.taken(-1, 0), BAD);

    x = on(36);
    x.street(1, 1);
    x.street(1, 1);
    x.window(0, 0);
    x.player(0, 0, -1);
    x.player(0, 0, -1);
    x.player(0, 0, -1);
    x.feed(4, 0);
    x.mend(0, 2, 9);
    x.body(7);
    x.act(0, 3, 1);
    int[] all = {2, 1, 3, 4, 1, 1, 12};
    for (int what = 0; what < 7; what++) due(x.count(what), all[what]);
    due(x.count(7), BAD);
    due(x.count(-1), BAD);
  }
}
