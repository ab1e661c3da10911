/** Streets with windows, and players who go where it pays: see README.md. */
public final class PaidElsewhere {
  public static final int BAD = -1, NOT = -2, FULL = -3, STATE = -5, VOID = -2000000000;

  private static final int NOTHING_THERE = -11, OTHER_KIND = -12, NO_SUCH_PLACE = -13, SIZE_BELOW_0 = -14;
  /** Long.MIN_VALUE: no row but one of longs can hold it. */
  private static final long NO_ELEMENT = 1L << 63;
  private static final int STREETS = 6, WINDOWS = 30, PLAYERS = 8;
  private static final int MOST_WEEKS = 60, MOST_ROUNDS = 60;
  private static final int MOST_GOOD = 10, MOST_HEARS = 100, MOST_PURSE = 999, MOST_FUND = 9999;
  /** The highest of TAKE, COST, QUIET, LAW of quiet and SUM; a TUNE's size too. */
  private static final int MOST_WORTH = 99;
  private static final int MOST_TAPE = 120;
  private static final int QUIET = 0, TUNE = 1, TAKE = 2;
  private static final int WAY_NOBODY_PAYS = 0, WAY_EACH = 1, WAY_STANDING = 2, WAY_CONSTABLE = 3, WAY_BEST = 4;
  private static final int NOWHERE = -1, NOBODY = -1;

  private final Town town;
  private final Once once;
  private final Fund fund;
  private final Weeks latest;
  private final Weeks thought;
  private final Changes changes;
  private final LawReader reader;
  private final Acts acts;
  private final Shelves shelves;
  private LawText lawInForce;
  private LawText lawBeingRead;

  public PaidElsewhere() {
    town = new Town();
    once = new Once(town);
    fund = new Fund(town);
    latest = new Weeks(town);
    thought = new Weeks(town);
    changes = new Changes();
    reader = new LawReader();
    acts = new Acts();
    shelves = new Shelves();
    lawInForce = new LawText();
    lawBeingRead = new LawText();
  }

  // ---- streets, windows, players

  public int street(int take, int law) {
    if (!isWithin(take, 0, MOST_WORTH) || !isWithin(law, 0, MOST_WORTH)) return BAD;
    return town.addStreet(take, law);
  }

  public int window(int sq, int tp) {
    if (sq < 0 || tp < 0) return BAD;
    int street = sq / 100, quiet = sq % 100, tune = tp / 1000 - MOST_WORTH, purse = tp % 1000;
    if (!town.takesWindow(street, quiet, tune, purse)) return BAD;
    return town.addWindow(street, quiet, tune, purse);
  }

  public int windows(int shelf, int i, int n) {
    if (!shelves.isShelf(shelf) || !isWithin(n, 1, 15)) return BAD;
    if (shelves.isEmpty(shelf)) return 0;
    if (!shelves.isRowOfShorts(shelf)) return OTHER_KIND;
    int came = 0;
    // no place is BAD: at one that is not there, below 0 too, the row has ended;
    // i + 4 * came can't wrap: each one that came lay within a row of 60
    while (came < n && comesFromRow(shelf, i + 4 * came)) came++;
    return came;
  }

  private boolean comesFromRow(int shelf, int i) {
    if (!shelves.hasPlaces(shelf, i, 4)) return false;
    int street = (int) shelves.elementAt(shelf, i);
    int quiet = (int) shelves.elementAt(shelf, i + 1);
    int tune = (int) shelves.elementAt(shelf, i + 2);
    int purse = (int) shelves.elementAt(shelf, i + 3);
    return town.takesWindow(street, quiet, tune, purse) && town.addWindow(street, quiet, tune, purse) >= 0;
  }

  public int player(int gc, int hears, int street) {
    if (!isWithin(gc, 0, 100 * MOST_GOOD + MOST_WORTH) || !isWithin(hears, 0, MOST_HEARS)) return BAD;
    if (street != NOWHERE && !town.isStreet(street)) return BAD;
    return town.addPlayer(gc / 100, gc % 100, hears, street);
  }

  public int mend(int number, int what, int v) {
    if (!town.takesMend(number, what, v)) return VOID;
    int was = town.told(number, what);
    if (was != v) {
      changes.add(number, what, was, v);
      town.tell(number, what, v);
    }
    return was;
  }

  public int pay(int street, int ws) {
    if (!town.isStreet(street) || !isWithin(ws, 0, 100 * WAY_BEST + MOST_WORTH)) return BAD;
    int was = town.wayAndSum(street);
    town.setWay(street, ws / 100, ws % 100);
    return was;
  }

  public int of(int number, int what) {
    if (isWithin(what, 0, 3) && town.isPlayer(number)) return town.ofPlayer(number, what);
    if (isWithin(what, 10, 13) && town.isWindow(number)) return town.ofWindow(number, what - 10);
    if (isWithin(what, 20, 23) && town.isStreet(number)) return town.ofStreet(number, what - 20);
    return VOID;
  }

  // ---- once

  public int harm(int pw) {
    if (pw < 0 || !town.isPlayer(pw / 100) || !town.isWindow(pw % 100)) return VOID;
    return town.harmTo(pw % 100, town.goodOf(pw / 100));
  }

  public int once(int ps, int what) {
    if (!isPair(ps)) return VOID;
    int player = ps / 10, street = ps % 10;
    switch (what) {
      case 0: return town.harmOfStreet(street, town.goodOf(player));
      case 1: return town.least(player, street);
      case 2: return town.most(street, town.goodOf(player));
      case 3: return once.bargain(player, street, town.goodOf(player));
      default: return VOID;
    }
  }

  public int waiting(int ps, int s, int seed, int rw) {
    if (!isPair(ps) || !isWithin(s, 0, MOST_WORTH) || rw < 0) return BAD;
    int rounds = rw / 10, what = rw % 10;
    if (!isWithin(rounds, 1, MOST_ROUNDS) || what > 2) return BAD;
    int first = once.firstToPay(ps, s, seed, rounds);
    if (what == 2) return once.lost(ps, first == NOT ? rounds : first / WINDOWS);
    if (first == NOT) return NOT;
    return what == 0 ? first / WINDOWS : first % WINDOWS;
  }

  public int exactly(int ps, int s, int rounds) {
    if (!isPair(ps) || !isWithin(s, 0, MOST_WORTH) || !isWithin(rounds, 0, MOST_ROUNDS)) return BAD;
    return once.unpaidThousandths(ps, s, rounds);
  }

  // ---- weeks

  public int feed(int n, int v) {
    if (!isWithin(n, 1, 4)) return BAD;
    return reader.feedBytes(n, v);
  }

  public int law() {
    int fault = reader.read(lawBeingRead);
    if (fault != LawReader.NO_FAULT) return -100 - fault;
    LawText spare = lawInForce;
    lawInForce = lawBeingRead;
    lawBeingRead = spare;
    return 1;
  }

  public int weeks(int n, int deed) {
    if (!isWithin(n, 1, MOST_WEEKS) || !isWithin(deed, 0, 1)) return BAD;
    latest.takeWays();
    latest.follow(lawInForce, n);
    latest.settleAll();
    if (deed == 1) latest.leaveThemThere();
    return latest.somewhere();
  }

  public int week(int number, int what) {
    if (isWithin(what, 0, 1) && latest.knowsPlayer(number)) {
      return what == 0 ? latest.whereIs(number) : latest.earnedBy(number);
    }
    if (!isWithin(what, 2, 4) || !latest.knowsStreet(number)) return VOID;
    if (what == 2) return latest.costOf(number);
    return what == 3 ? latest.thereAt(number) : latest.ledAt(number);
  }

  public int best(int street, int n, int what) {
    if (!isThought(street, n) || !isWithin(what, 0, 1)) return VOID;
    int leastCost = 0, bestWay = NOT;
    for (int way = WAY_NOBODY_PAYS; way <= WAY_BEST; way++) {
      int mostSum = way == WAY_NOBODY_PAYS || way == WAY_CONSTABLE ? 0 : 90;
      for (int sum = 0; sum <= mostSum; sum += 10) {
        int cost = costInThought(street, n, way, sum);
        if (bestWay == NOT || cost < leastCost) {
          leastCost = cost;
          bestWay = 100 * way + sum;
        }
      }
    }
    return what == 0 ? bestWay : leastCost;
  }

  public int called(int street, int n) {
    if (!isThought(street, n)) return VOID;
    int wayAndSum = town.wayAndSum(street);
    return thereInThought(street, n, wayAndSum / 100, wayAndSum % 100)
        - thereInThought(street, n, WAY_NOBODY_PAYS, 0);
  }

  public int off(int street, int n) {
    if (!isThought(street, n)) return BAD;
    for (int sum = 0; sum <= MOST_WORTH; sum++) {
      if (thereInThought(street, n, WAY_STANDING, sum) <= 1) return sum;
    }
    return NOT;
  }

  private boolean isThought(int street, int n) {
    return town.isStreet(street) && isWithin(n, 1, MOST_WEEKS);
  }

  private int thereInThought(int street, int n, int way, int sum) {
    thought.takeWays();
    thought.supposeWay(street, way, sum);
    thought.follow(lawInForce, n);
    return thought.thereAt(street);
  }

  private int costInThought(int street, int n, int way, int sum) {
    thought.takeWays();
    thought.supposeWay(street, way, sum);
    thought.follow(lawInForce, n);
    thought.settleAll();
    return thought.costOf(street);
  }

  // ---- funds, the law of quiet

  public int fund(int ps, int sum, int i) {
    if (!isPair(ps) || !isWithin(sum, 0, MOST_FUND)) return BAD;
    if (i < -2 || i >= town.windowsOf(ps % 10)) return BAD;
    fund.share(ps % 10, town.goodOf(ps / 10), sum);
    if (i == -1) return fund.holds() ? 1 : 0;
    if (i == -2) return fund.unwilling();
    return fund.partOf(i);
  }

  public int fetch(int ps) {
    if (!isPair(ps)) return BAD;
    int player = ps / 10, street = ps % 10;
    int constable = town.lawOfQuiet(street);
    int bargain = once.bargain(player, street, town.goodOf(player));
    if (constable == 0 || bargain == NOT) return NOT;
    return constable < bargain ? 1 : 0;
  }

  public int worse(int ps) {
    if (!isPair(ps)) return BAD;
    int mostBargain = NOT, found = NOT;
    for (int good = 0; good <= MOST_GOOD; good++) {
      int bargain = once.bargain(ps / 10, ps % 10, good);
      if (bargain > mostBargain) {
        mostBargain = bargain;
        found = good;
      }
    }
    return found;
  }

  public int lovers(int ps, int what) {
    if (!isPair(ps) || !isWithin(what, 0, 1)) return BAD;
    int player = ps / 10, street = ps % 10;
    // what is not harm that is felt is love: the sum of harms below 0, by its size
    int love = town.most(street, town.goodOf(player)) - town.harmOfStreet(street, town.goodOf(player));
    if (what == 0) return love;
    return love >= town.least(player, street) ? 1 : 0;
  }

  public int judge() {
    return town.firstBeyondItsPurses();
  }

  public int undo() {
    int i = changes.stepBack();
    if (i < 0) return STATE;
    town.tell(changes.numberOf(i), changes.whatOf(i), changes.beforeOf(i));
    return changes.undoable();
  }

  public int redo() {
    int i = changes.stepOn();
    if (i < 0) return STATE;
    town.tell(changes.numberOf(i), changes.whatOf(i), changes.behindOf(i));
    return changes.redoable();
  }

  // ---- acts, shelves

  public int body(int kind) {
    if (!isWithin(kind, 0, Acts.KINDS - 1)) return BAD;
    return acts.addBody(kind);
  }

  public int act(int body, int act, int x) {
    return acts.run(body, act, x);
  }

  public int trace(int i) {
    return acts.traced(i);
  }

  public int keep(int shelf, int body) {
    if (!shelves.isShelf(shelf)) return BAD;
    if (body != NOBODY && !acts.isBody(body)) return BAD;
    if (body == NOBODY) shelves.clearShelf(shelf);
    else shelves.holdBody(shelf, body);
    return 1;
  }

  public int row(int shelf, int sort, int n) {
    if (!shelves.isShelf(shelf) || !shelves.isSort(sort) || n > Shelves.MOST_ELEMENTS) return BAD;
    if (n < 0) return SIZE_BELOW_0;
    shelves.holdRow(shelf, sort, n);
    return 1;
  }

  public int put(int shelf, int i, long v) {
    int refusal = shelves.refusalOf(shelf, i);
    if (refusal != 0) return refusal;
    shelves.set(shelf, i, v);
    return 1;
  }

  public long element(int shelf, int i) {
    if (shelves.refusalOf(shelf, i) != 0) return NO_ELEMENT;
    return shelves.elementAt(shelf, i);
  }

  public int shift(int shelf, int i, int other, int j, int n) {
    if (!shelves.isShelf(shelf) || !shelves.isShelf(other)) return BAD;
    if (shelves.isEmpty(shelf) || shelves.isEmpty(other)) return NOTHING_THERE;
    if (!shelves.areLikeRows(shelf, other)) return OTHER_KIND;
    if (!shelves.hasPlaces(shelf, i, n) || !shelves.hasPlaces(other, j, n)) return NO_SUCH_PLACE;
    shelves.copy(shelf, i, other, j, n);
    return n;
  }

  public int taken(int shelf, int k) {
    if (!shelves.isShelf(shelf) || !isWithin(k, 0, Acts.KINDS - 1)) return BAD;
    if (shelves.isEmpty(shelf)) return NOTHING_THERE;
    if (shelves.isRow(shelf)) return OTHER_KIND;
    int kind = acts.kindOf(shelves.bodyOn(shelf));
    return Acts.isUnder(kind, k) ? kind : OTHER_KIND;
  }

  public int count(int what) {
    switch (what) {
      case 0: return town.streets();
      case 1: return town.windowsInAll();
      case 2: return town.players();
      case 3: return reader.bytes();
      case 4: return changes.undoable();
      case 5: return acts.bodies();
      case 6: return acts.ranInAll();
      default: return BAD;
    }
  }

  private boolean isPair(int ps) {
    return ps >= 0 && town.isPlayer(ps / 10) && town.isStreet(ps % 10);
  }

  private static boolean isWithin(int v, int least, int most) {
    return v >= least && v <= most;
  }

  /** The figures of all streets, windows and players. */
  private static final class Town {
    private int streetCount;
    private final int[] takeOf = new int[STREETS];
    private final int[] lawOf = new int[STREETS];
    private final int[] wayOf = new int[STREETS];
    private final int[] sumOf = new int[STREETS];
    private int windowCount;
    private final int[] streetOf = new int[WINDOWS];
    private final int[] quietOf = new int[WINDOWS];
    private final int[] tuneOf = new int[WINDOWS];
    private final int[] purseOf = new int[WINDOWS];
    private int playerCount;
    private final int[] good = new int[PLAYERS];
    private final int[] costOf = new int[PLAYERS];
    private final int[] hearsOf = new int[PLAYERS];
    private final int[] placeOf = new int[PLAYERS];

    int streets() {
      return streetCount;
    }

    int windowsInAll() {
      return windowCount;
    }

    int players() {
      return playerCount;
    }

    boolean isStreet(int street) {
      return street >= 0 && street < streetCount && street < STREETS;
    }

    boolean isWindow(int window) {
      return window >= 0 && window < windowCount && window < WINDOWS;
    }

    boolean isPlayer(int player) {
      return player >= 0 && player < playerCount && player < PLAYERS;
    }

    int addStreet(int take, int law) {
      if (streetCount >= STREETS) return FULL;
      takeOf[streetCount] = take;
      lawOf[streetCount] = law;
      return streetCount++;
    }

    boolean takesWindow(int street, int quiet, int tune, int purse) {
      return isStreet(street) && isWithin(quiet, 0, MOST_WORTH)
          && isWithin(tune, -MOST_WORTH, MOST_WORTH) && isWithin(purse, 0, MOST_PURSE);
    }

    int addWindow(int street, int quiet, int tune, int purse) {
      if (windowCount >= WINDOWS) return FULL;
      streetOf[windowCount] = street;
      quietOf[windowCount] = quiet;
      tuneOf[windowCount] = tune;
      purseOf[windowCount] = purse;
      return windowCount++;
    }

    int addPlayer(int goodness, int cost, int hears, int street) {
      if (playerCount >= PLAYERS) return FULL;
      good[playerCount] = goodness;
      costOf[playerCount] = cost;
      hearsOf[playerCount] = hears;
      placeOf[playerCount] = street;
      return playerCount++;
    }

    boolean takesMend(int number, int what, int v) {
      switch (what) {
        case QUIET: return isWindow(number) && isWithin(v, 0, MOST_WORTH);
        case TUNE: return isWindow(number) && isWithin(v, -MOST_WORTH, MOST_WORTH);
        case TAKE: return isStreet(number) && isWithin(v, 0, MOST_WORTH);
        default: return false;
      }
    }

    int told(int number, int what) {
      if (what == TAKE) return take(number);
      if (!isWindow(number)) return 0;
      return what == QUIET ? quietOf[number] : tuneOf[number];
    }

    void tell(int number, int what, int v) {
      if (what == TAKE) {
        if (isStreet(number)) takeOf[number] = v;
      } else if (isWindow(number)) {
        if (what == QUIET) quietOf[number] = v;
        else tuneOf[number] = v;
      }
    }

    void setWay(int street, int way, int sum) {
      if (!isStreet(street)) return;
      wayOf[street] = way;
      sumOf[street] = sum;
    }

    void setPlace(int player, int street) {
      if (isPlayer(player)) placeOf[player] = street;
    }

    int wayAndSum(int street) {
      return isStreet(street) ? 100 * wayOf[street] + sumOf[street] : 0;
    }

    int take(int street) {
      return isStreet(street) ? takeOf[street] : 0;
    }

    int lawOfQuiet(int street) {
      return isStreet(street) ? lawOf[street] : 0;
    }

    int goodOf(int player) {
      return isPlayer(player) ? good[player] : 0;
    }

    int cost(int player) {
      return isPlayer(player) ? costOf[player] : 0;
    }

    int hearing(int player) {
      return isPlayer(player) ? hearsOf[player] : 0;
    }

    int place(int player) {
      return isPlayer(player) ? placeOf[player] : NOWHERE;
    }

    int purse(int window) {
      return isWindow(window) ? purseOf[window] : 0;
    }

    int ofPlayer(int player, int what) {
      if (!isPlayer(player)) return VOID;
      switch (what) {
        case 0: return good[player];
        case 1: return costOf[player];
        case 2: return hearsOf[player];
        default: return placeOf[player];
      }
    }

    int ofWindow(int window, int what) {
      if (!isWindow(window)) return VOID;
      switch (what) {
        case 0: return streetOf[window];
        case 1: return quietOf[window];
        case 2: return tuneOf[window];
        default: return purseOf[window];
      }
    }

    int ofStreet(int street, int what) {
      if (!isStreet(street)) return VOID;
      switch (what) {
        case 0: return takeOf[street];
        case 1: return lawOf[street];
        case 2: return wayAndSum(street);
        default: return windowsOf(street);
      }
    }

    int windowsOf(int street) {
      int found = 0;
      for (int w = 0; w < windowCount; w++) if (isOf(w, street)) found++;
      return found;
    }

    boolean isOf(int window, int street) {
      return isWindow(window) && streetOf[window] == street;
    }

    int harmTo(int window, int goodness) {
      if (!isWindow(window)) return 0;
      return quietOf[window] - tuneOf[window] * goodness / 10;
    }

    /** Whether the window is one of the street's that would pay: its HARM is above 0. */
    boolean isHarmed(int window, int street, int goodness) {
      return isOf(window, street) && harmTo(window, goodness) > 0;
    }

    int harmOfStreet(int street, int goodness) {
      int harm = 0;
      for (int w = 0; w < windowCount; w++) if (isOf(w, street)) harm += harmTo(w, goodness);
      return harm;
    }

    int most(int street, int goodness) {
      int harm = 0;
      for (int w = 0; w < windowCount; w++) if (isHarmed(w, street, goodness)) harm += harmTo(w, goodness);
      return harm;
    }

    int howManyHarmed(int street, int goodness) {
      int found = 0;
      for (int w = 0; w < windowCount; w++) if (isHarmed(w, street, goodness)) found++;
      return found;
    }

    int least(int player, int street) {
      return Math.max(take(street) - cost(player), 0) + 1;
    }

    int firstBeyondItsPurses() {
      for (int k = 0; k < streetCount; k++) {
        int purses = 0;
        for (int w = 0; w < windowCount; w++) if (isOf(w, k)) purses += purseOf[w];
        if (isStreet(k) && sumOf[k] > purses) return k;
      }
      return NOT;
    }
  }

  /** One player and one street, once: the bargain, and windows that wait. */
  private static final class Once {
    private final Town town;

    Once(Town town) {
      this.town = town;
    }

    /** GOOD is told apart from the player, as WORSE asks for that of a player who plays otherwise. */
    int bargain(int player, int street, int goodness) {
      int least = town.least(player, street), most = town.most(street, goodness);
      return most >= least ? (least + most) / 2 : NOT;
    }

    private static int haste(int harm, int s, int howMany) {
      int all = harm + s * (howMany - 1);
      return all > 0 ? 1000 * harm / all : 0;
    }

    /** WINDOWS times the round, and the window that pays in it; NOT if none does. */
    int firstToPay(int ps, int s, int seed, int rounds) {
      int street = ps % 10, goodness = town.goodOf(ps / 10);
      int howMany = town.howManyHarmed(street, goodness);
      int z = seed;
      for (int round = 0; round < rounds; round++) {
        for (int w = 0; w < WINDOWS; w++) {
          if (!town.isHarmed(w, street, goodness)) continue;
          z = z * 1103515245 + 12345;
          if ((z >>> 8) % 1000 < haste(town.harmTo(w, goodness), s, howMany)) return round * WINDOWS + w;
        }
      }
      return NOT;
    }

    int lost(int ps, int roundsAhead) {
      return town.most(ps % 10, town.goodOf(ps / 10)) * roundsAhead;
    }

    int unpaidThousandths(int ps, int s, int rounds) {
      int street = ps % 10, goodness = town.goodOf(ps / 10);
      int howMany = town.howManyHarmed(street, goodness);
      int unpaid = 1000000;
      for (int round = 0; round < rounds; round++) {
        for (int w = 0; w < WINDOWS; w++) {
          if (!town.isHarmed(w, street, goodness)) continue;
          unpaid = unpaid * (1000 - haste(town.harmTo(w, goodness), s, howMany)) / 1000;
        }
      }
      return unpaid / 1000;
    }
  }

  /** A fund's parts, of one street's windows in their order. */
  private static final class Fund {
    private final Town town;
    private final int[] part = new int[WINDOWS];
    private final int[] harm = new int[WINDOWS];
    private final int[] purse = new int[WINDOWS];
    private int members;

    Fund(Town town) {
      this.town = town;
    }

    void share(int street, int goodness, int sum) {
      int all = town.most(street, goodness);
      int left = sum, first = NOBODY;
      members = 0;
      for (int w = 0; w < WINDOWS; w++) {
        if (!town.isOf(w, street)) continue;
        harm[members] = town.harmTo(w, goodness);
        purse[members] = town.purse(w);
        part[members] = harm[members] > 0 && all > 0 ? sum * harm[members] / all : 0;
        left -= part[members];
        if (first == NOBODY && harm[members] > 0) first = members;
        members++;
      }
      if (first != NOBODY) part[first] += left;
    }

    int partOf(int i) {
      return i >= 0 && i < members ? part[i] : BAD;
    }

    // only windows with HARM above 0 have a PART that could be too much:
    // one that loves the tune pays 0, and 0 is not held against its HARM below 0
    private boolean isAboveHarm(int i) {
      return harm[i] > 0 && part[i] > harm[i];
    }

    boolean holds() {
      for (int i = 0; i < members; i++) {
        if (isAboveHarm(i) || part[i] > purse[i]) return false;
      }
      return true;
    }

    int unwilling() {
      int bits = 0;
      for (int i = 0; i < members; i++) if (isAboveHarm(i)) bits |= 1 << i;
      return bits;
    }
  }

  /** THE LAW as a row of steps over a stack. */
  private static final class LawText {
    /** Steps: a number is itself, a name FIRST_NAME less its place in NAMES, a sign FIRST_SIGN less the sign. */
    static final int FIRST_NAME = -1, FIRST_SIGN = -100;
    static final int NEGATED = '~', ASKED = '?', LINE_ENDS = ';';
    private static final int ROOM = MOST_TAPE + 8;
    private final int[] step = new int[ROOM];
    private final int[] stack = new int[ROOM];
    private int steps;
    private int top;

    void clearSteps() {
      steps = 0;
    }

    void addStep(int v) {
      if (steps < ROOM) step[steps++] = v;
    }

    private void push(int v) {
      if (top >= 0 && top < ROOM) stack[top++] = v;
    }

    private int pop() {
      return top > 0 && top <= ROOM ? stack[--top] : 0;
    }

    int worth(int[] facts) {
      if (steps == 0) return facts[Weeks.T] - facts[Weeks.C] - 10 * facts[Weeks.N];
      boolean counts = true;
      top = 0;
      for (int i = 0; i < steps; i++) {
        int v = step[i];
        int sign = FIRST_SIGN - v;
        if (sign < 0) push(v >= 0 ? v : factAt(facts, FIRST_NAME - v));
        else if (sign == ASKED) counts = pop() != 0;
        else if (sign != LINE_ENDS) {
          int right = pop();
          int left = sign == '!' || sign == NEGATED ? 0 : pop();
          push(joined(sign, left, right));
        } else if (counts) return pop();
        else {
          top = 0;
          counts = true;
        }
      }
      return 0;
    }

    private static int factAt(int[] facts, int i) {
      return i >= 0 && i < facts.length ? facts[i] : 0;
    }

    private static int joined(int sign, int left, int right) {
      switch (sign) {
        case '|': return left != 0 || right != 0 ? 1 : 0;
        case '&': return left != 0 && right != 0 ? 1 : 0;
        case '<': return left < right ? 1 : 0;
        case '=': return left == right ? 1 : 0;
        case '>': return left > right ? 1 : 0;
        case '+': return left + right;
        case '-': return left - right;
        case '*': return left * right;
        case '/': return right == 0 ? 0 : left / right;
        case '%': return right == 0 ? 0 : left % right;
        case '!': return right == 0 ? 1 : 0;
        case NEGATED: return -right;
        default: return 0;
      }
    }
  }

  /** THE TAPE, and what reads it as a law. */
  private static final class LawReader {
    static final int NO_FAULT = -1;
    private static final int MOST_DIGITS = 4, MOST_OPEN = 6;
    /** The levels of a part, from the loosest sign to an operand without one. */
    private static final int EITHER = 0, COMPARED = 2, OPERAND = 5;
    private static final String NAMES = "tcphngks";
    private final int[] tape = new int[MOST_TAPE];
    private int length;
    private int at;
    private LawText text;

    int bytes() {
      return length;
    }

    int feedBytes(int n, int v) {
      if (length + n > MOST_TAPE) return FULL;
      for (int i = 0; i < n; i++) tape[length++] = v >>> 8 * i & 255;
      return length;
    }

    /** Empties THE TAPE into the text; the place of the FAULT, or NO_FAULT. */
    int read(LawText into) {
      text = into;
      text.clearSteps();
      at = 0;
      boolean goesOn = readLine();
      for (int lines = 1; goesOn && at < length && lines <= MOST_TAPE; lines++) {
        goesOn = next() == ';';
        if (goesOn) {
          at++;
          goesOn = readLine();
        }
      }
      // wherever a part can't go on, at stands on the byte that stops it
      int fault = goesOn ? NO_FAULT : at;
      length = 0;
      return fault;
    }

    private int next() {
      return at >= 0 && at < length && at < MOST_TAPE ? tape[at] : -1;
    }

    private void addSign(int sign) {
      text.addStep(LawText.FIRST_SIGN - sign);
    }

    private boolean readLine() {
      if (!readPart(EITHER, 0)) return false;
      if (next() == '?') {
        at++;
        addSign(LawText.ASKED);
        if (!readPart(EITHER, 0)) return false;
      }
      addSign(LawText.LINE_ENDS);
      return true;
    }

    private boolean readPart(int level, int open) {
      if (level >= OPERAND) return readOperand(open);
      if (!readPart(level + 1, open)) return false;
      int mostSigns = level == COMPARED ? 1 : MOST_TAPE;
      for (int signs = 0; signs < mostSigns && levelOf(next()) == level; signs++) {
        int sign = next();
        at++;
        if (!readPart(level + 1, open)) return false;
        addSign(sign);
      }
      return true;
    }

    private static int levelOf(int sign) {
      switch (sign) {
        case '|': return EITHER;
        case '&': return 1;
        case '<': case '=': case '>': return COMPARED;
        case '+': case '-': return 3;
        case '*': case '/': case '%': return 4;
        default: return -1;
      }
    }

    private boolean readOperand(int open) {
      int sign = next();
      if (isDigit(sign)) return readNumber();
      int name = sign < 0 ? -1 : NAMES.indexOf((char) sign);
      if (name >= 0) {
        at++;
        text.addStep(LawText.FIRST_NAME - name);
        return true;
      }
      if (open >= MOST_OPEN) return false;
      if (sign == '(') return readBracket(open + 1);
      if (sign != '!' && sign != '-') return false;
      at++;
      if (!readOperand(open + 1)) return false;
      addSign(sign == '-' ? LawText.NEGATED : '!');
      return true;
    }

    private boolean readBracket(int open) {
      at++;
      if (!readPart(EITHER, open) || next() != ')') return false;
      at++;
      return true;
    }

    private boolean readNumber() {
      int number = 0;
      for (int digits = 0; digits < MOST_DIGITS && isDigit(next()); digits++) {
        number = 10 * number + next() - '0';
        at++;
      }
      text.addStep(number);
      return true;
    }

    private static boolean isDigit(int sign) {
      return sign >= '0' && sign <= '9';
    }
  }

  /** So many weeks from where the players are, with ways that may be other than those told. */
  private static final class Weeks {
    /** The places of THE LAW's names among the facts, as in LawReader.NAMES. */
    static final int T = 0, C = 1, P = 2, H = 3, N = 4, G = 5, K = 6, S = 7;
    private final Town town;
    private final int[] way = new int[STREETS];
    private final int[] sum = new int[STREETS];
    private final int[] there = new int[STREETS];
    private final int[] paid = new int[STREETS];
    private final int[] cost = new int[STREETS];
    private final int[] where = new int[PLAYERS];
    private final int[] goesTo = new int[PLAYERS];
    private final int[] earned = new int[PLAYERS];
    private final int[] facts = new int[8];
    private final int[] path = new int[MOST_WEEKS];
    /** How many streets and players there were: later ones have no part in these weeks. */
    private int streets;
    private int players;
    private int length;
    private int unlike;
    private int period;

    Weeks(Town town) {
      this.town = town;
    }

    void takeWays() {
      for (int k = 0; k < STREETS; k++) {
        int wayAndSum = town.wayAndSum(k);
        way[k] = wayAndSum / 100;
        sum[k] = wayAndSum % 100;
      }
    }

    void supposeWay(int street, int newWay, int newSum) {
      if (street < 0 || street >= STREETS) return;
      way[street] = newWay;
      sum[street] = newSum;
    }

    /**
     * Where all are follows from where they were a week ahead, so the path goes in a round as soon
     * as a week is like an earlier one: unlike weeks are kept, the rest are told by the period.
     */
    void follow(LawText law, int n) {
      streets = Math.min(town.streets(), STREETS);
      players = Math.min(town.players(), PLAYERS);
      length = n;
      unlike = 0;
      period = 0;
      begin();
      for (int week = 0; week < n && week < MOST_WEEKS && period == 0; week++) {
        allGo(law);
        payOut();
        path[week] = packed();
        period = sinceLikeWeek(week);
        if (period == 0) unlike = week + 1;
      }
      unpack(path[lastUnlike()]);
    }

    private void begin() {
      for (int p = 0; p < players; p++) where[p] = town.place(p);
      countThere();
      for (int k = 0; k < STREETS; k++) paid[k] = 0;
    }

    private void countThere() {
      for (int k = 0; k < STREETS; k++) there[k] = 0;
      for (int p = 0; p < players; p++) if (isSomewhere(p)) there[where[p]]++;
    }

    private boolean isSomewhere(int player) {
      return where[player] >= 0 && where[player] < STREETS;
    }

    private void allGo(LawText law) {
      // nobody is moved before all have chosen: they go at once
      for (int p = 0; p < players; p++) goesTo[p] = choice(law, p);
      for (int p = 0; p < players; p++) where[p] = goesTo[p];
      countThere();
    }

    private int choice(LawText law, int player) {
      int most = 0, chosen = NOWHERE;
      facts[C] = town.cost(player);
      facts[H] = town.hearing(player);
      facts[G] = town.goodOf(player);
      for (int k = 0; k < streets; k++) {
        facts[T] = town.take(k);
        facts[P] = paid[k];
        facts[N] = there[k];
        facts[K] = k;
        facts[S] = where[player] == k ? 1 : 0;
        int worth = law.worth(facts);
        if (worth > most) {
          most = worth;
          chosen = k;
        }
      }
      return chosen;
    }

    private void payOut() {
      for (int k = 0; k < streets; k++) {
        boolean toOne = way[k] == WAY_STANDING || way[k] == WAY_BEST;
        int howMany = toOne ? Math.min(there[k], 1) : way[k] == WAY_EACH ? there[k] : 0;
        paid[k] = howMany * sum[k];
      }
    }

    /** Where all are in one number: three bits each, as there are seven places to be. */
    private int packed() {
      int all = 0;
      for (int p = 0; p < players; p++) all |= where[p] + 1 << 3 * p;
      return all;
    }

    private void unpack(int all) {
      for (int p = 0; p < players; p++) where[p] = (all >>> 3 * p & 7) - 1;
      countThere();
    }

    private int sinceLikeWeek(int week) {
      for (int w = 0; w < week; w++) if (path[w] == path[week]) return week - w;
      return 0;
    }

    /** The week of the path that the last week is like. */
    private int lastUnlike() {
      int last = length - 1;
      if (period > 0 && last >= unlike) {
        int first = unlike - period;
        last = first + (last - first) % period;
      }
      return isWithin(last, 0, MOST_WEEKS - 1) ? last : 0;
    }

    private int howOften(int week) {
      if (period <= 0 || week < unlike - period) return 1;
      return 1 + (length - 1 - week) / period;
    }

    void settleAll() {
      for (int k = 0; k < STREETS; k++) cost[k] = 0;
      for (int p = 0; p < PLAYERS; p++) earned[p] = 0;
      for (int week = 0; week < unlike; week++) {
        unpack(path[week]);
        for (int p = 0; p < players; p++) if (isSomewhere(p)) settle(p, where[p], howOften(week));
      }
      unpack(path[lastUnlike()]);
    }

    private void settle(int player, int street, int times) {
      boolean plays = isPlaying(player, street);
      int gets = getsPaid(player, street), law = town.lawOfQuiet(street);
      int harm = plays ? town.harmOfStreet(street, town.goodOf(player)) : 0;
      int sentOff = way[street] == WAY_CONSTABLE ? law : 0;
      int takes = plays ? town.take(street) : 0;
      cost[street] += times * (harm + gets + sentOff);
      earned[player] += times * (takes + gets - town.cost(player));
    }

    private boolean isPlaying(int player, int street) {
      switch (way[street]) {
        case WAY_NOBODY_PAYS: return true;
        case WAY_EACH: return false;
        case WAY_CONSTABLE: return town.lawOfQuiet(street) == 0;
        default: return aloneAt(street) == player;
      }
    }

    private int getsPaid(int player, int street) {
      switch (way[street]) {
        case WAY_EACH: return sum[street];
        case WAY_STANDING: case WAY_BEST: return aloneAt(street) == player ? sum[street] : 0;
        default: return 0;
      }
    }

    /** The one who is paid to play alone: the first there, or the best. */
    private int aloneAt(int street) {
      int alone = NOBODY;
      for (int p = 0; p < players; p++) {
        if (where[p] != street) continue;
        if (alone == NOBODY) alone = p;
        else if (way[street] == WAY_BEST && town.goodOf(p) > town.goodOf(alone)) alone = p;
      }
      return alone;
    }

    void leaveThemThere() {
      for (int p = 0; p < players; p++) town.setPlace(p, where[p]);
    }

    int somewhere() {
      int found = 0;
      for (int p = 0; p < players; p++) if (isSomewhere(p)) found++;
      return found;
    }

    boolean knowsPlayer(int player) {
      return player >= 0 && player < players && player < PLAYERS;
    }

    boolean knowsStreet(int street) {
      return street >= 0 && street < streets && street < STREETS;
    }

    int whereIs(int player) {
      return knowsPlayer(player) ? where[player] : VOID;
    }

    int earnedBy(int player) {
      return knowsPlayer(player) ? earned[player] : VOID;
    }

    int costOf(int street) {
      return knowsStreet(street) ? cost[street] : VOID;
    }

    int thereAt(int street) {
      return knowsStreet(street) ? there[street] : VOID;
    }

    int ledAt(int street) {
      int led = NOBODY;
      for (int p = 0; p < players; p++) {
        if (where[p] == street && (led == NOBODY || earned[p] > earned[led])) led = p;
      }
      return led;
    }
  }

  /** The latest changes, for undoing and doing again. */
  private static final class Changes {
    private static final int MOST_KEPT = 40;
    private final int[] number = new int[MOST_KEPT];
    private final int[] what = new int[MOST_KEPT];
    private final int[] before = new int[MOST_KEPT];
    private final int[] behind = new int[MOST_KEPT];
    private int kept;
    private int done;

    int undoable() {
      return done;
    }

    int redoable() {
      return kept - done;
    }

    void add(int itsNumber, int itsWhat, int was, int becomes) {
      if (done >= MOST_KEPT) forgetOldest();
      number[done] = itsNumber;
      what[done] = itsWhat;
      before[done] = was;
      behind[done] = becomes;
      done++;
      kept = done;
    }

    private void forgetOldest() {
      for (int i = 1; i < MOST_KEPT; i++) {
        number[i - 1] = number[i];
        what[i - 1] = what[i];
        before[i - 1] = before[i];
        behind[i - 1] = behind[i];
      }
      done = MOST_KEPT - 1;
    }

    /** The place of the change to undo, now undone; -1 if there is none. */
    int stepBack() {
      return done > 0 ? --done : -1;
    }

    /** The place of the change to do again, now done; -1 if there is none. */
    int stepOn() {
      return done < kept ? done++ : -1;
    }

    private static boolean isPlace(int i) {
      return i >= 0 && i < MOST_KEPT;
    }

    int numberOf(int i) {
      return isPlace(i) ? number[i] : -1;
    }

    int whatOf(int i) {
      return isPlace(i) ? what[i] : -1;
    }

    int beforeOf(int i) {
      return isPlace(i) ? before[i] : 0;
    }

    int behindOf(int i) {
      return isPlace(i) ? behind[i] : 0;
    }
  }

  /** Bodies of kinds, and the acts that they inherit. */
  private static final class Acts {
    static final int KINDS = 8;
    private static final int BODIES = 50, MOST_TRACED = 24, ACTS = 4;
    private static final int WAITS = 0, PAYS = 1, HEARS = 2, TELLS = 3;
    /** Far above the deepest chain that the kinds have: it keeps a mistake in the tables from going on. */
    private static final int MOST_DEPTH = 30;
    private static final int[] ABOVE = {-1, 0, 0, 1, 2, 0, 0, 4};
    /** By kind: its own body of each act, or 0. What WINDOW's interfaces bring stands at WINDOW. */
    private static final int[] OWN = {
      1, 10, 11, 2,
      20, 0, 0, 0,
      0, 30, 0, 0,
      41, 0, 40, 0,
      0, 0, 50, 0,
      0, 0, 0, 60,
      70, 0, 0, 0,
      0, 80, 0, 81,
    };
    private final int[] kind = new int[BODIES];
    private final int[] traceOf = new int[MOST_TRACED];
    private int bodyCount;
    private int ran;
    private int acting;

    int bodies() {
      return bodyCount;
    }

    int ranInAll() {
      return ran;
    }

    int addBody(int itsKind) {
      if (bodyCount >= BODIES) return FULL;
      kind[bodyCount] = itsKind;
      return bodyCount++;
    }

    boolean isBody(int body) {
      return body >= 0 && body < bodyCount && body < BODIES;
    }

    int kindOf(int body) {
      return isBody(body) ? kind[body] : 0;
    }

    private static int above(int ofKind) {
      return ofKind >= 0 && ofKind < KINDS ? ABOVE[ofKind] : -1;
    }

    static boolean isUnder(int lower, int upper) {
      int k = lower;
      for (int steps = 0; steps < KINDS && k >= 0; steps++) {
        if (k == upper) return true;
        k = above(k);
      }
      return false;
    }

    int run(int body, int act, int x) {
      ran = 0;
      if (!isBody(body) || !isWithin(act, 0, ACTS - 1)) return 0;
      acting = body;
      return self(act, x, 0);
    }

    int traced(int i) {
      return i >= 0 && i < ran && i < MOST_TRACED ? traceOf[i] : BAD;
    }

    private int self(int act, int x, int depth) {
      return from(kindOf(acting), act, x, depth);
    }

    private int from(int startKind, int act, int x, int depth) {
      int k = startKind;
      for (int steps = 0; steps < KINDS && k >= 0; steps++) {
        if (ownBody(k, act) != 0) return begin(ownBody(k, act), k, x, depth);
        k = above(k);
      }
      return 0;
    }

    private static int ownBody(int ofKind, int act) {
      int i = ACTS * ofKind + act;
      return i >= 0 && i < OWN.length ? OWN[i] : 0;
    }

    private int begin(int bodyOfAct, int itsKind, int x, int depth) {
      if (depth >= MOST_DEPTH) return 0;
      if (ran < MOST_TRACED) traceOf[ran] = bodyOfAct;
      ran++;
      int up = above(itsKind), deeper = depth + 1;
      switch (bodyOfAct) {
        case 1: return x + acting;
        case 2: return self(PAYS, x, deeper) - self(HEARS, 1, deeper);
        case 10: return self(WAITS, x, deeper) * 2;
        case 11: return x ^ acting;
        case 20: return from(up, WAITS, x, deeper) + 3;
        case 30: return -from(up, PAYS, x, deeper);
        case 40: return from(up, HEARS, x, deeper) * 3;
        case 41: return from(up, WAITS, x + 1, deeper);
        case 50: return from(up, HEARS, x, deeper) - self(WAITS, 2, deeper);
        case 60: return from(up, TELLS, x, deeper) ^ 5;
        case 70: return from(up, WAITS, x, deeper) * 2;
        case 80: return from(up, PAYS, x, deeper) + self(HEARS, 2, deeper);
        case 81: return from(up, TELLS, x, deeper) - 1;
        default: return 0;
      }
    }
  }

  /** Shelves of a body, a row or nothing; each has its row's room from the start. */
  private static final class Shelves {
    static final int MOST_ELEMENTS = 60;
    private static final int SHELVES = 6;
    private static final int BYTES = 0, SHORTS = 1, INTS = 2, LONGS = 3, BOOLEANS = 4;
    private static final int NOTHING = -1, BODY = -2;
    /** The sort of the row that a shelf holds, or NOTHING, or BODY. */
    private final int[] holding = {NOTHING, NOTHING, NOTHING, NOTHING, NOTHING, NOTHING};
    private final int[] bodyHeld = new int[SHELVES];
    private final int[] size = new int[SHELVES];
    private final long[][] rows = new long[SHELVES][MOST_ELEMENTS];

    boolean isShelf(int shelf) {
      return shelf >= 0 && shelf < SHELVES;
    }

    boolean isSort(int sort) {
      return sort >= BYTES && sort <= BOOLEANS;
    }

    boolean isEmpty(int shelf) {
      return !isShelf(shelf) || holding[shelf] == NOTHING;
    }

    boolean isRow(int shelf) {
      return isShelf(shelf) && isSort(holding[shelf]);
    }

    boolean isRowOfShorts(int shelf) {
      return isShelf(shelf) && holding[shelf] == SHORTS;
    }

    boolean areLikeRows(int shelf, int other) {
      return isRow(shelf) && isRow(other) && holding[shelf] == holding[other];
    }

    boolean hasPlaces(int shelf, int i, int n) {
      return isRow(shelf) && i >= 0 && n >= 0 && n <= size[shelf] && i <= size[shelf] - n;
    }

    /** Why there is no element i on the shelf; 0 if there is one. */
    int refusalOf(int shelf, int i) {
      if (!isShelf(shelf)) return BAD;
      if (isEmpty(shelf)) return NOTHING_THERE;
      if (!isRow(shelf)) return OTHER_KIND;
      return hasPlaces(shelf, i, 1) ? 0 : NO_SUCH_PLACE;
    }

    int bodyOn(int shelf) {
      return isShelf(shelf) && holding[shelf] == BODY ? bodyHeld[shelf] : NOBODY;
    }

    void clearShelf(int shelf) {
      if (isShelf(shelf)) holding[shelf] = NOTHING;
    }

    void holdBody(int shelf, int body) {
      if (!isShelf(shelf)) return;
      holding[shelf] = BODY;
      bodyHeld[shelf] = body;
    }

    void holdRow(int shelf, int sort, int n) {
      if (!isShelf(shelf)) return;
      holding[shelf] = sort;
      size[shelf] = n;
      for (int i = 0; i < MOST_ELEMENTS; i++) rows[shelf][i] = 0;
    }

    long elementAt(int shelf, int i) {
      return hasPlaces(shelf, i, 1) ? rows[shelf][i] : 0;
    }

    void set(int shelf, int i, long v) {
      if (hasPlaces(shelf, i, 1)) rows[shelf][i] = lowestBits(holding[shelf], v);
    }

    private static long lowestBits(int sort, long v) {
      switch (sort) {
        case BYTES: return (byte) v;
        case SHORTS: return (short) v;
        case INTS: return (int) v;
        case BOOLEANS: return v != 0 ? 1 : 0;
        default: return v;
      }
    }

    /** Overlapping parts of one row are safe with arraycopy: all come as they were before. */
    void copy(int shelf, int i, int other, int j, int n) {
      if (!hasPlaces(shelf, i, n) || !hasPlaces(other, j, n)) return;
      System.arraycopy(rows[shelf], i, rows[other], j, n);
    }
  }
}
