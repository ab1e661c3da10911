import java.util.Random;

/** Long runs of drawn calls, each answered by the class and by the model: they must agree. */
public final class ModelTest {
  private static final int RUNS = 1500, CALLS = 512;
  private static final String SIGNS = "0123456789tcphngks!-()+*/%<=>&|?;";
  private static final int[] STRANGE = {Integer.MIN_VALUE, Integer.MIN_VALUE + 1, -1000, -100, -2, -1, 0, 1, 2, 60, 61,
      99, 100, 120, 500, 1000, 65535, 1 << 30, Integer.MAX_VALUE - 1, Integer.MAX_VALUE};

  private final Random draw;
  private final int run;
  private final PaidElsewhere x = new PaidElsewhere();
  private final Model y = new Model();
  private String left = "";
  private int calls = 0;

  private ModelTest(int run) {
    this.run = run;
    this.draw = new Random(run);
    ModelActs.ran.clear();
  }

  public static void main(String[] args) {
    for (int run = 0; run < RUNS; run++) {
      ModelTest test = new ModelTest(run);
      if (run % 4 != 0) test.settleIn();
      while (test.calls < CALLS) test.call(test.draw.nextInt(35));
    }
    System.out.println("the class and the model agree in " + RUNS + " runs of " + CALLS + " calls");
  }

  private void same(String call, long got, long want) {
    calls++;
    if (got == want) return;
    System.out.println("run " + run + ", call " + calls + ": " + call + " answered " + got + ", by the model " + want);
    System.exit(1);
  }

  /** From a up to b mostly; at times a little beyond, or far. */
  private int in(int a, int b) {
    int dice = draw.nextInt(60);
    if (dice == 0) return STRANGE[draw.nextInt(STRANGE.length)];
    if (dice == 1) return a - 1;
    if (dice == 2) return b + 1;
    return a + draw.nextInt(b - a + 1);
  }

  private int ps() { return 10 * in(0, Math.max(0, y.players.size() - 1)) + in(0, Math.max(0, y.streets.size() - 1)); }
  private int streetNumber() { return in(0, Math.max(0, y.streets.size() - 1)); }

  /** Enough streets, windows and players that most calls have something to answer. */
  private void settleIn() {
    for (int i = 0; i < 1 + draw.nextInt(5); i++) call(0);
    for (int i = 0; i < draw.nextInt(24); i++) call(1);
    for (int i = 0; i < 1 + draw.nextInt(8); i++) call(3);
  }

  private void call(int which) {
    if (which < 7) callFigures(which);
    else if (which < 11) callOnce(which);
    else if (which < 18) callWeeks(which);
    else if (which < 25) callFunds(which);
    else if (which < 29) callActs(which);
    else callShelves(which);
  }

  private void callFigures(int which) {
    int a, b, c;
    switch (which) {
      case 0:
        a = in(0, 99); b = draw.nextInt(3) == 0 ? 0 : in(0, 99);
        same("street(" + a + ", " + b + ")", x.street(a, b), y.street(a, b));
        break;
      case 1:
        a = 100 * streetNumber() + in(0, 99); b = 1000 * in(0, 198) + in(0, 999);
        same("window(" + a + ", " + b + ")", x.window(a, b), y.window(a, b));
        break;
      case 2: {
        int shelf = in(0, 5);
        fillRow(shelf);
        a = in(-2, 8); b = in(1, 15);
        if (draw.nextInt(4) == 0) same("windows(" + shelf + ", " + a + ", " + b + ")", x.windows(shelf, a, b), y.windows(shelf, a, b));
        break;
      }
      case 3:
        a = 100 * in(0, 10) + in(0, 99); b = in(0, 100); c = in(-1, Math.max(0, y.streets.size() - 1));
        same("player(" + a + ", " + b + ", " + c + ")", x.player(a, b, c), y.player(a, b, c));
        break;
      case 4:
        a = in(0, 2);
        b = in(0, Math.max(0, (a == 2 ? y.streets.size() : y.windows.size()) - 1)); c = in(a == 1 ? -99 : 0, 99);
        same("mend(" + b + ", " + a + ", " + c + ")", x.mend(b, a, c), y.mend(b, a, c));
        if (draw.nextInt(9) == 0) same("mend again", x.mend(b, a, c), y.mend(b, a, c));
        break;
      case 5:
        a = streetNumber(); b = 100 * in(0, 4) + in(0, 99);
        same("pay(" + a + ", " + b + ")", x.pay(a, b), y.pay(a, b));
        break;
      default:
        a = 10 * in(0, 2) + in(0, 3); b = in(0, 30);
        same("of(" + b + ", " + a + ")", x.of(b, a), y.of(b, a));
    }
  }

  private void fillRow(int shelf) {
    if (draw.nextInt(4) > 0) return;
    int n = in(0, 60);
    same("row(" + shelf + ", 1, " + n + ")", x.row(shelf, 1, n), y.row(shelf, 1, n));
    for (int i = 0; i < Math.min(n, 12); i++) {
      int v = i % 4 == 0 ? streetNumber() : i % 4 == 1 ? in(0, 99) : i % 4 == 2 ? in(-99, 99) : in(0, 999);
      same("put(" + shelf + ", " + i + ", " + v + ")", x.put(shelf, i, v), y.put(shelf, i, v));
    }
  }

  private void callOnce(int which) {
    int ps = ps(), a, b, c;
    switch (which) {
      case 7:
        a = 100 * in(0, Math.max(0, y.players.size() - 1)) + in(0, Math.max(0, y.windows.size() - 1));
        same("harm(" + a + ")", x.harm(a), y.harm(a));
        break;
      case 8:
        a = in(0, 3);
        same("once(" + ps + ", " + a + ")", x.once(ps, a), y.once(ps, a));
        break;
      case 9:
        a = in(0, 99); b = draw.nextInt(); c = 10 * in(1, 60) + in(0, 2);
        same("waiting(" + ps + ", " + a + ", " + b + ", " + c + ")", x.waiting(ps, a, b, c), y.waiting(ps, a, b, c));
        break;
      default:
        a = in(0, 99); b = draw.nextInt(2) == 0 ? in(0, 4) : in(0, 60);
        same("exactly(" + ps + ", " + a + ", " + b + ")", x.exactly(ps, a, b), y.exactly(ps, a, b));
    }
  }

  private void callWeeks(int which) {
    int k = streetNumber(), n = draw.nextInt(3) == 0 ? in(1, 4) : in(1, 60), a;
    switch (which) {
      case 11:
        feedSome();
        break;
      case 12:
        if (draw.nextInt(3) == 0) return;
        same("law() of " + y.tape, x.law(), y.law());
        break;
      case 13:
        a = in(0, 1);
        same("weeks(" + n + ", " + a + ")", x.weeks(n, a), y.weeks(n, a));
        break;
      case 14:
        a = in(0, 4); k = in(0, 7);
        same("week(" + k + ", " + a + ")", x.week(k, a), y.week(k, a));
        break;
      case 15:
        if (draw.nextInt(3) > 0) return;
        a = in(0, 1);
        same("best(" + k + ", " + n + ", " + a + ")", x.best(k, n, a), y.best(k, n, a));
        break;
      case 16:
        same("called(" + k + ", " + n + ")", x.called(k, n), y.called(k, n));
        break;
      default:
        if (draw.nextInt(4) > 0) return;
        same("off(" + k + ", " + n + ")", x.off(k, n), y.off(k, n));
    }
  }

  /** A text, mostly a good one, comes by threes and fours. */
  private void feedSome() {
    int dice = draw.nextInt(12);
    if (dice == 0) left = drawnSigns(1 + draw.nextInt(130));
    else if (dice == 1) left = "";
    else if (dice < 6) left = wildLine();
    else left = lines();
    if (dice == 2 && !left.isEmpty()) {
      int i = draw.nextInt(left.length());
      left = left.substring(0, i) + drawnSigns(1) + left.substring(i + 1);
    }
    while (!left.isEmpty()) {
      int n = Math.min(left.length(), 1 + draw.nextInt(4)), v = draw.nextInt();
      for (int i = 0; i < n; i++) v = v & ~(255 << 8 * i) | left.charAt(i) << 8 * i;
      left = left.substring(n);
      same("feed(" + n + ", " + v + ")", x.feed(n, v), y.feed(n, v));
    }
    int strange = in(1, 4), v = draw.nextInt();
    if (strange < 1 || strange > 4) same("feed(" + strange + ", " + v + ")", x.feed(strange, v), y.feed(strange, v));
    if (draw.nextInt(3) > 0) same("law() of " + y.tape, x.law(), y.law());
  }

  private String drawnSigns(int n) {
    StringBuilder signs = new StringBuilder();
    for (int i = 0; i < n; i++) {
      signs.append(draw.nextInt(40) == 0 ? (char) draw.nextInt(256) : SIGNS.charAt(draw.nextInt(SIGNS.length())));
    }
    return signs.toString();
  }

  /** A text by which players go about as if drawn, so that weeks take long to go in a round. */
  private String wildLine() {
    StringBuilder sum = new StringBuilder("(" + draw.nextInt(100));
    for (char name : "tcphngks".toCharArray()) sum.append("+").append(name).append("*").append(1 + draw.nextInt(99));
    return sum.append(")*").append(1 + draw.nextInt(9999)).append("%97-").append(draw.nextInt(60)).toString();
  }

  private String lines() {
    StringBuilder text = new StringBuilder(line());
    while (draw.nextInt(3) == 0) text.append(';').append(line());
    return text.length() > 120 && draw.nextInt(4) > 0 ? "t-c+p" : text.toString();
  }

  private String line() { return draw.nextInt(2) == 0 ? part(0, 0) : part(0, 0) + "?" + part(0, 0); }

  private String part(int level, int depth) {
    String[] signs = {"|", "&", "<=>", "+-", "*/%"};
    if (level == 5) return operand(depth);
    StringBuilder text = new StringBuilder(part(level + 1, depth));
    for (int i = 0; i < (level == 2 ? 1 : 3) && draw.nextInt(5) == 0; i++) {
      text.append(signs[level].charAt(draw.nextInt(signs[level].length()))).append(part(level + 1, depth));
    }
    return text.toString();
  }

  private String operand(int depth) {
    int dice = draw.nextInt(14);
    if (dice < 4) return "" + draw.nextInt(dice == 0 ? 10000 : 30);
    if (dice < 11 || depth > 7) return "" + "tcphngks".charAt(draw.nextInt(8));
    return dice == 11 ? "!" + operand(depth + 1) : dice == 12 ? "-" + operand(depth + 1) : "(" + part(0, depth + 1) + ")";
  }

  private void callFunds(int which) {
    int ps = ps(), a, b;
    switch (which) {
      case 18:
        a = draw.nextInt(2) == 0 ? in(0, 200) : in(0, 9999); b = in(-2, 6);
        same("fund(" + ps + ", " + a + ", " + b + ")", x.fund(ps, a, b), y.fund(ps, a, b));
        break;
      case 19: same("fetch(" + ps + ")", x.fetch(ps), y.fetch(ps)); break;
      case 20: same("worse(" + ps + ")", x.worse(ps), y.worse(ps)); break;
      case 21:
        a = in(0, 1);
        same("lovers(" + ps + ", " + a + ")", x.lovers(ps, a), y.lovers(ps, a));
        break;
      case 22: same("judge()", x.judge(), y.judge()); break;
      case 23: same("undo()", x.undo(), y.undo()); break;
      default: same("redo()", x.redo(), y.redo());
    }
  }

  private void callActs(int which) {
    int a, b, c;
    switch (which) {
      case 25:
        a = in(0, 7);
        same("body(" + a + ")", x.body(a), y.body(a));
        break;
      case 26:
        a = in(0, Math.max(0, y.bodies.size() - 1)); b = in(0, 3); c = draw.nextBoolean() ? draw.nextInt() : in(-9, 9);
        same("act(" + a + ", " + b + ", " + c + ")", x.act(a, b, c), y.act(a, b, c));
        break;
      case 27:
        a = in(0, 12);
        same("trace(" + a + ")", x.trace(a), y.trace(a));
        break;
      default:
        a = in(0, 6);
        same("count(" + a + ")", x.count(a), y.count(a));
    }
  }

  private void callShelves(int which) {
    int shelf = in(0, 5), a, b, c;
    switch (which) {
      case 29:
        a = in(-1, Math.max(0, y.bodies.size() - 1));
        same("keep(" + shelf + ", " + a + ")", x.keep(shelf, a), y.keep(shelf, a));
        break;
      case 30:
        a = in(0, 4); b = in(0, 60);
        same("row(" + shelf + ", " + a + ", " + b + ")", x.row(shelf, a, b), y.row(shelf, a, b));
        break;
      case 31: {
        a = in(0, 30);
        long v = draw.nextInt(3) == 0 ? 0 : draw.nextInt(2) == 0 ? in(-300, 300) : draw.nextLong();
        same("put(" + shelf + ", " + a + ", " + v + ")", x.put(shelf, a, v), y.put(shelf, a, v));
        break;
      }
      case 32:
        a = in(0, 30);
        same("element(" + shelf + ", " + a + ")", x.element(shelf, a), y.element(shelf, a));
        break;
      case 33: {
        int other = in(0, 5);
        a = in(0, 10); b = in(0, 10); c = in(0, 8);
        same("shift(" + shelf + ", " + a + ", " + other + ", " + b + ", " + c + ")",
            x.shift(shelf, a, other, b, c), y.shift(shelf, a, other, b, c));
        break;
      }
      default:
        a = in(0, 7);
        same("taken(" + shelf + ", " + a + ")", x.taken(shelf, a), y.taken(shelf, a));
    }
  }
}
