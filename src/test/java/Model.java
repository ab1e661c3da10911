import java.util.ArrayDeque;
import java.util.ArrayList;
import java.util.Deque;
import java.util.List;

/** The document once more, as plainly as may be and by other means: lists, texts, the host's own exceptions. */
final class Model {
  static final int BAD = -1, NOT = -2, FULL = -3, STATE = -5, VOID = -2000000000;

  static final class Street { int take, law, way, sum; }
  static final class Window { int street, quiet, tune, purse; }
  static final class Player { int good, cost, hears, street; }

  /** What some weeks came to. */
  static final class Outcome {
    final List<Integer> where = new ArrayList<>();
    final List<Integer> earned = new ArrayList<>();
    final List<Integer> cost = new ArrayList<>();
  }

  final List<Street> streets = new ArrayList<>();
  final List<Window> windows = new ArrayList<>();
  final List<Player> players = new ArrayList<>();
  final Deque<int[]> undoable = new ArrayDeque<>();
  final Deque<int[]> redoable = new ArrayDeque<>();
  final List<ModelActs.Window> bodies = new ArrayList<>();
  final Object[] shelves = new Object[6];
  String tape = "";
  String law = null;
  Outcome latest = null;

  // ---- streets, windows, players

  static boolean in(int v, int a, int b) { return a <= v && v <= b; }

  int street(int take, int law) {
    if (!in(take, 0, 99) || !in(law, 0, 99)) return BAD;
    if (streets.size() == 6) return FULL;
    Street s = new Street();
    s.take = take; s.law = law;
    streets.add(s);
    return streets.size() - 1;
  }

  int window(int sq, int tp) {
    if (!in(sq, 0, 599) || !in(tp, 0, 198999)) return BAD;
    return newWindow(sq / 100, sq % 100, tp / 1000 - 99, tp % 1000);
  }

  int newWindow(int street, int quiet, int tune, int purse) {
    if (!in(street, 0, streets.size() - 1) || !in(quiet, 0, 99) || !in(tune, -99, 99) || !in(purse, 0, 999)) return BAD;
    if (windows.size() == 30) return FULL;
    Window w = new Window();
    w.street = street; w.quiet = quiet; w.tune = tune; w.purse = purse;
    windows.add(w);
    return windows.size() - 1;
  }

  int windows(int shelf, int i, int n) {
    if (!in(shelf, 0, 5) || !in(n, 1, 15)) return BAD;
    if (shelves[shelf] == null) return 0;
    if (!(shelves[shelf] instanceof short[])) return -12;
    short[] row = (short[]) shelves[shelf];
    int came = 0;
    try {
      for (; came < n; came++) {
        int at = Math.addExact(i, 4 * came);
        if (newWindow(row[at], row[at + 1], row[at + 2], row[at + 3]) < 0) break;
      }
    } catch (ArrayIndexOutOfBoundsException | ArithmeticException ended) {
      return came;
    }
    return came;
  }

  int player(int gc, int hears, int street) {
    if (!in(gc, 0, 1099) || !in(hears, 0, 100) || !in(street, -1, streets.size() - 1)) return BAD;
    if (players.size() == 8) return FULL;
    Player p = new Player();
    p.good = gc / 100; p.cost = gc % 100; p.hears = hears; p.street = street;
    players.add(p);
    return players.size() - 1;
  }

  int setFigure(int number, int what, int v) {
    int was;
    if (what == 0) { was = windows.get(number).quiet; windows.get(number).quiet = v; }
    else if (what == 1) { was = windows.get(number).tune; windows.get(number).tune = v; }
    else { was = streets.get(number).take; streets.get(number).take = v; }
    return was;
  }

  int mend(int number, int what, int v) {
    if (!in(what, 0, 2) || !in(number, 0, (what == 2 ? streets.size() : windows.size()) - 1)) return VOID;
    if (!in(v, what == 1 ? -99 : 0, 99)) return VOID;
    int was = setFigure(number, what, v);
    if (was != v) {
      undoable.addLast(new int[] {number, what, was, v});
      if (undoable.size() > 40) undoable.removeFirst();
      redoable.clear();
    }
    return was;
  }

  int pay(int street, int ws) {
    if (!in(street, 0, streets.size() - 1) || !in(ws, 0, 499)) return BAD;
    Street s = streets.get(street);
    int was = s.way * 100 + s.sum;
    s.way = ws / 100;
    s.sum = ws % 100;
    return was;
  }

  int of(int number, int what) {
    if (in(what, 0, 3) && in(number, 0, players.size() - 1)) {
      Player p = players.get(number);
      return new int[] {p.good, p.cost, p.hears, p.street}[what];
    }
    if (in(what, 10, 13) && in(number, 0, windows.size() - 1)) {
      Window w = windows.get(number);
      return new int[] {w.street, w.quiet, w.tune, w.purse}[what - 10];
    }
    if (in(what, 20, 23) && in(number, 0, streets.size() - 1)) {
      Street s = streets.get(number);
      return new int[] {s.take, s.law, s.way * 100 + s.sum, on(number).size()}[what - 20];
    }
    return VOID;
  }

  // ---- once

  List<Integer> on(int street) {
    List<Integer> found = new ArrayList<>();
    for (int i = 0; i < windows.size(); i++) if (windows.get(i).street == street) found.add(i);
    return found;
  }

  int harm(int good, Window w) { return w.quiet - w.tune * good / 10; }

  List<Integer> harms(int good, int street) {
    List<Integer> found = new ArrayList<>();
    for (int i : on(street)) found.add(harm(good, windows.get(i)));
    return found;
  }

  boolean pair(int ps) { return in(ps, 0, 79) && ps / 10 < players.size() && ps % 10 < streets.size(); }

  int harm(int pw) {
    if (pw < 0 || pw / 100 >= players.size() || pw % 100 >= windows.size()) return VOID;
    return harm(players.get(pw / 100).good, windows.get(pw % 100));
  }

  int least(Player p, Street s) { return 1 + (s.take > p.cost ? s.take - p.cost : 0); }

  int most(int good, int street) { return harms(good, street).stream().mapToInt(h -> h > 0 ? h : 0).sum(); }

  int bargain(Player p, int good, int street) {
    int least = least(p, streets.get(street)), most = most(good, street);
    return most >= least ? (least + most) / 2 : NOT;
  }

  int once(int ps, int what) {
    if (!pair(ps) || !in(what, 0, 3)) return VOID;
    Player p = players.get(ps / 10);
    if (what == 0) return harms(p.good, ps % 10).stream().mapToInt(h -> h).sum();
    if (what == 1) return least(p, streets.get(ps % 10));
    if (what == 2) return most(p.good, ps % 10);
    return bargain(p, p.good, ps % 10);
  }

  List<Integer> harmed(int good, int street) {
    List<Integer> found = on(street);
    found.removeIf(i -> harm(good, windows.get(i)) <= 0);
    return found;
  }

  int waiting(int ps, int s, int seed, int rw) {
    if (!pair(ps) || !in(s, 0, 99) || !in(rw, 10, 609) || rw % 10 > 2) return BAD;
    int good = players.get(ps / 10).good, rounds = rw / 10, z = seed;
    List<Integer> all = harmed(good, ps % 10);
    int payer = NOT, payRound = NOT;
    out:
    for (int round = 0; round < rounds; round++) {
      for (int i : all) {
        z = z * 1103515245 + 12345;
        int h = harm(good, windows.get(i));
        if ((z >>> 8) % 1000 < 1000 * h / (h + s * (all.size() - 1))) { payer = i; payRound = round; break out; }
      }
    }
    if (rw % 10 == 0) return payRound;
    if (rw % 10 == 1) return payer;
    return most(good, ps % 10) * (payer == NOT ? rounds : payRound);
  }

  int exactly(int ps, int s, int rounds) {
    if (!pair(ps) || !in(s, 0, 99) || !in(rounds, 0, 60)) return BAD;
    int good = players.get(ps / 10).good;
    List<Integer> all = harmed(good, ps % 10);
    long left = 1000000;
    for (int round = 0; round < rounds; round++) {
      for (int i : all) {
        int h = harm(good, windows.get(i));
        left = left * (1000 - 1000 * h / (h + s * (all.size() - 1))) / 1000;
      }
    }
    return (int) (left / 1000);
  }

  // ---- weeks

  int feed(int n, int v) {
    if (!in(n, 1, 4)) return BAD;
    if (tape.length() + n > 120) return FULL;
    for (int i = 0; i < n; i++) tape += (char) (v >> 8 * i & 255);
    return tape.length();
  }

  int law() {
    String text = tape;
    tape = "";
    int fault = ModelLaw.fault(text);
    if (fault >= 0) return -100 - fault;
    law = text;
    return 1;
  }

  Outcome play(int n, int[] ways) {
    Outcome out = new Outcome();
    int[] where = players.stream().mapToInt(p -> p.street).toArray();
    int[] paid = new int[streets.size()];
    int[] earned = new int[players.size()];
    int[] cost = new int[streets.size()];
    for (int week = 0; week < n; week++) {
      int[] now = new int[players.size()];
      for (int p = 0; p < now.length; p++) now[p] = choice(p, where, paid);
      where = now;
      for (int k = 0; k < paid.length; k++) paid[k] = settle(k, where, ways[k], earned, cost);
    }
    for (int w : where) out.where.add(w);
    for (int e : earned) out.earned.add(e);
    for (int c : cost) out.cost.add(c);
    return out;
  }

  static int there(int[] where, int street) {
    int found = 0;
    for (int w : where) if (w == street) found++;
    return found;
  }

  int choice(int p, int[] where, int[] paid) {
    int most = 0, chosen = -1;
    Player one = players.get(p);
    for (int k = 0; k < paid.length; k++) {
      Street s = streets.get(k);
      int n = there(where, k);
      int worth = law == null ? s.take - one.cost - 10 * n : ModelLaw.worth(law, new int[] {
          s.take, one.cost, paid[k], one.hears, n, one.good, k, where[p] == k ? 1 : 0});
      if (worth > most) { most = worth; chosen = k; }
    }
    return chosen;
  }

  /** One street's week; what was paid there to all. */
  int settle(int k, int[] where, int ws, int[] earned, int[] cost) {
    Street s = streets.get(k);
    int way = ws / 100, sum = ws % 100, paid = 0, alone = -1;
    for (int p = where.length - 1; p >= 0; p--) {
      if (where[p] != k) continue;
      if (alone < 0 || way != 4 || players.get(p).good >= players.get(alone).good) alone = p;
    }
    for (int p = 0; p < where.length; p++) {
      if (where[p] != k) continue;
      boolean one = (way == 2 || way == 4) && p == alone;
      boolean plays = way == 0 || one || way == 3 && s.law == 0;
      int gets = way == 1 || one ? sum : 0;
      earned[p] += (plays ? s.take : 0) + gets - players.get(p).cost;
      if (plays) cost[k] += harms(players.get(p).good, k).stream().mapToInt(h -> h).sum();
      cost[k] += gets + (way == 3 ? s.law : 0);
      paid += gets;
    }
    return paid;
  }

  int[] ways() { return streets.stream().mapToInt(s -> s.way * 100 + s.sum).toArray(); }

  Outcome playWith(int n, int street, int ws) {
    int[] ways = ways();
    ways[street] = ws;
    return play(n, ways);
  }

  int weeks(int n, int deed) {
    if (!in(n, 1, 60) || !in(deed, 0, 1)) return BAD;
    latest = play(n, ways());
    if (deed == 1) for (int p = 0; p < players.size(); p++) players.get(p).street = latest.where.get(p);
    return (int) latest.where.stream().filter(w -> w >= 0).count();
  }

  int week(int number, int what) {
    if (latest == null || number < 0 || !in(what, 0, 4)) return VOID;
    if (number >= (what < 2 ? latest.where.size() : latest.cost.size())) return VOID;
    if (what == 0) return latest.where.get(number);
    if (what == 1) return latest.earned.get(number);
    if (what == 2) return latest.cost.get(number);
    int there = 0, led = -1;
    for (int p = 0; p < latest.where.size(); p++) {
      if (latest.where.get(p) != number) continue;
      there++;
      if (led < 0 || latest.earned.get(p) > latest.earned.get(led)) led = p;
    }
    return what == 3 ? there : led;
  }

  int best(int street, int n, int what) {
    if (!in(street, 0, streets.size() - 1) || !in(n, 1, 60) || !in(what, 0, 1)) return VOID;
    int least = Integer.MAX_VALUE, found = 0;
    for (int ws = 0; ws < 500; ws += 10) {
      if (ws > 0 && ws < 100 || ws > 300 && ws < 400) continue;
      int cost = playWith(n, street, ws).cost.get(street);
      if (cost < least) { least = cost; found = ws; }
    }
    return what == 0 ? found : least;
  }

  int thereBy(int n, int street, int ws) {
    return (int) playWith(n, street, ws).where.stream().filter(w -> w == street).count();
  }

  int called(int street, int n) {
    if (!in(street, 0, streets.size() - 1) || !in(n, 1, 60)) return VOID;
    return thereBy(n, street, ways()[street]) - thereBy(n, street, 0);
  }

  int off(int street, int n) {
    if (!in(street, 0, streets.size() - 1) || !in(n, 1, 60)) return BAD;
    for (int sum = 0; sum < 100; sum++) if (thereBy(n, street, 200 + sum) < 2) return sum;
    return NOT;
  }

  // ---- funds, the law of quiet

  int fund(int ps, int sum, int i) {
    if (!pair(ps) || !in(sum, 0, 9999) || i < -2) return BAD;
    int good = players.get(ps / 10).good;
    List<Integer> all = on(ps % 10), harmed = harmed(good, ps % 10);
    if (i >= all.size()) return BAD;
    int most = most(good, ps % 10), left = sum, who = 0;
    int[] parts = new int[all.size()];
    for (int w : harmed) left -= parts[all.indexOf(w)] = sum * harm(good, windows.get(w)) / most;
    if (!harmed.isEmpty()) parts[all.indexOf(harmed.get(0))] += left;
    boolean holds = true;
    for (int w : harmed) {
      int part = parts[all.indexOf(w)];
      if (part > harm(good, windows.get(w))) who += 1 << all.indexOf(w);
      if (part > windows.get(w).purse) holds = false;
    }
    if (i == -1) return holds && who == 0 ? 1 : 0;
    return i == -2 ? who : parts[i];
  }

  int fetch(int ps) {
    if (!pair(ps)) return BAD;
    int law = streets.get(ps % 10).law, bargain = once(ps, 3);
    return law == 0 || bargain == NOT ? NOT : law < bargain ? 1 : 0;
  }

  int worse(int ps) {
    if (!pair(ps)) return BAD;
    int found = NOT, most = NOT;
    for (int good = 10; good >= 0; good--) {
      int bargain = bargain(players.get(ps / 10), good, ps % 10);
      if (bargain != NOT && bargain >= most) { most = bargain; found = good; }
    }
    return found;
  }

  int lovers(int ps, int what) {
    if (!pair(ps) || !in(what, 0, 1)) return BAD;
    Player p = players.get(ps / 10);
    int love = harms(p.good, ps % 10).stream().mapToInt(h -> h < 0 ? -h : 0).sum();
    return what == 0 ? love : love >= least(p, streets.get(ps % 10)) ? 1 : 0;
  }

  int judge() {
    for (int k = 0; k < streets.size(); k++) {
      if (streets.get(k).sum > on(k).stream().mapToInt(w -> windows.get(w).purse).sum()) return k;
    }
    return NOT;
  }

  int undo() {
    if (undoable.isEmpty()) return STATE;
    int[] change = undoable.removeLast();
    redoable.addLast(change);
    setFigure(change[0], change[1], change[2]);
    return undoable.size();
  }

  int redo() {
    if (redoable.isEmpty()) return STATE;
    int[] change = redoable.removeLast();
    undoable.addLast(change);
    setFigure(change[0], change[1], change[3]);
    return redoable.size();
  }

  // ---- acts, shelves

  int body(int kind) {
    if (!in(kind, 0, 7)) return BAD;
    if (bodies.size() == 50) return FULL;
    bodies.add(ModelActs.make(kind, bodies.size()));
    return bodies.size() - 1;
  }

  int act(int body, int act, int x) {
    ModelActs.ran.clear();
    if (!in(body, 0, bodies.size() - 1) || !in(act, 0, 3)) return 0;
    ModelActs.Window w = bodies.get(body);
    return act == 0 ? w.waits(x) : act == 1 ? w.pays(x) : act == 2 ? w.hears(x) : w.tells(x);
  }

  int trace(int i) { return in(i, 0, Math.min(24, ModelActs.ran.size()) - 1) ? ModelActs.ran.get(i) : BAD; }

  int keep(int shelf, int body) {
    if (!in(shelf, 0, 5) || !in(body, -1, bodies.size() - 1)) return BAD;
    shelves[shelf] = body < 0 ? null : bodies.get(body);
    return 1;
  }

  int row(int shelf, int sort, int n) {
    if (!in(shelf, 0, 5) || !in(sort, 0, 4) || n > 60) return BAD;
    try {
      shelves[shelf] = sort == 0 ? new byte[n] : sort == 1 ? new short[n] : sort == 2 ? new int[n]
          : sort == 3 ? (Object) new long[n] : new boolean[n];
    } catch (NegativeArraySizeException below) {
      return -14;
    }
    return 1;
  }

  int put(int shelf, int i, long v) {
    if (!in(shelf, 0, 5)) return BAD;
    Object row = shelves[shelf];
    if (row == null) return -11;
    if (row instanceof ModelActs.Window) return -12;
    try {
      if (row instanceof byte[]) ((byte[]) row)[i] = (byte) v;
      else if (row instanceof short[]) ((short[]) row)[i] = (short) v;
      else if (row instanceof int[]) ((int[]) row)[i] = (int) v;
      else if (row instanceof long[]) ((long[]) row)[i] = v;
      else ((boolean[]) row)[i] = v != 0;
    } catch (ArrayIndexOutOfBoundsException none) {
      return -13;
    }
    return 1;
  }

  long element(int shelf, int i) {
    if (!in(shelf, 0, 5) || shelves[shelf] == null || shelves[shelf] instanceof ModelActs.Window) return Long.MIN_VALUE;
    try {
      Object row = shelves[shelf];
      if (row instanceof boolean[]) return ((boolean[]) row)[i] ? 1 : 0;
      return java.lang.reflect.Array.getLong(row, i);
    } catch (ArrayIndexOutOfBoundsException none) {
      return Long.MIN_VALUE;
    }
  }

  int shift(int shelf, int i, int other, int j, int n) {
    if (!in(shelf, 0, 5) || !in(other, 0, 5)) return BAD;
    if (shelves[shelf] == null || shelves[other] == null) return -11;
    try {
      System.arraycopy(shelves[shelf], i, shelves[other], j, n);
    } catch (ArrayStoreException unlike) {
      return -12;
    } catch (IndexOutOfBoundsException none) {
      return -13;
    }
    return n;
  }

  int taken(int shelf, int k) {
    if (!in(shelf, 0, 5) || !in(k, 0, 7)) return BAD;
    if (shelves[shelf] == null) return -11;
    if (!ModelActs.make(k, 0).getClass().isInstance(shelves[shelf])) return -12;
    return ((ModelActs.Window) shelves[shelf]).kind();
  }

  int count(int what) {
    int[] all = {streets.size(), windows.size(), players.size(), tape.length(), undoable.size(), bodies.size(),
        ModelActs.ran.size()};
    return in(what, 0, 6) ? all[what] : BAD;
  }
}
