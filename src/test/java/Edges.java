import java.io.IOException;
import java.nio.charset.StandardCharsets;
import java.nio.file.Files;
import java.nio.file.Path;
import java.util.ArrayList;
import java.util.List;

/** Edge cases: each is named by its promise and by words of the document, which must stand there. */
final class Edges {
  static final int BAD = -1, NOT = -2, FULL = -3, STATE = -5, VOID = -2000000000;
  static final int NOTHING = -11, OTHER_KIND = -12, NO_PLACE = -13, BELOW_0 = -14;
  static final int LOW = Integer.MIN_VALUE, HIGH = Integer.MAX_VALUE;
  private static final int LAST_PROMISE = 36, MOST_CALLS = 512;

  interface Case { void run(); }
  interface Call { long on(PaidElsewhere x); }
  /** Makes calls on a new object and tells how many they were. */
  interface Setup { int on(PaidElsewhere x); }

  private static final String DOCUMENT = plain(read(Path.of("../shared/DOC.md")));
  private static final int[] casesOf = new int[LAST_PROMISE + 1];
  private static int promise, step, wrong;
  private static String sentence = "";

  private Edges() { }

  private static String read(Path path) {
    try {
      return new String(Files.readAllBytes(path), StandardCharsets.UTF_8);
    } catch (IOException none) {
      throw new IllegalStateException("the document is not there: " + path, none);
    }
  }

  private static String plain(String text) { return text.replaceAll("\\s+", " "); }

  static void edge(int itsPromise, String itsSentence, Case it) {
    promise = itsPromise;
    sentence = itsSentence;
    step = 0;
    casesOf[itsPromise]++;
    if (!DOCUMENT.contains(plain(itsSentence))) miss("these words don't stand in the document");
    try {
      it.run();
    } catch (RuntimeException | Error thrown) {
      miss("threw " + thrown);
    }
    if (step == 0) miss("looked at nothing");
  }

  private static void miss(String what) {
    wrong++;
    System.out.println("promise " + promise + ", \"" + sentence + "\", step " + step + ": " + what);
  }

  static void due(long got, long want) {
    step++;
    if (got != want) miss("answered " + got + ", due is " + want);
  }

  /** The call is refused as due, and behind it the object answers whatever is asked as one without the call does. */
  static void refused(Setup setup, long want, Call call) {
    PaidElsewhere with = new PaidElsewhere(), without = new PaidElsewhere();
    int calls = setup.on(with);
    setup.on(without);
    due(call.on(with), want);
    List<Long> now = Answers.of(with), before = Answers.of(without);
    if (calls + 1 + now.size() > MOST_CALLS) miss("more than " + MOST_CALLS + " calls");
    for (int i = 0; i < Math.max(now.size(), before.size()); i++) {
      long is = i < now.size() ? now.get(i) : VOID, was = i < before.size() ? before.get(i) : VOID;
      if (is == was) continue;
      miss("the refused call left its mark: question " + i + " is answered " + is + ", was " + was);
      return;
    }
  }

  /** Ends the test; each promise from first to last must have had a case. */
  static void end(int first, int last) {
    int cases = 0;
    for (int i = first; i <= last; i++) {
      cases += casesOf[i];
      if (casesOf[i] > 0) continue;
      wrong++;
      System.out.println("promise " + i + " has no case");
    }
    if (wrong > 0) {
      System.out.println(wrong + " edges are not as due");
      System.exit(1);
    }
    System.out.println(cases + " edges of promises " + first + " to " + last + " are as due");
  }

  /** All that an object tells of itself, and what lies hidden: THE LAW, THE TAPE, the changes, the sorts of rows. */
  private static final class Answers {
    private final PaidElsewhere x;
    private final List<Long> found = new ArrayList<>();

    private Answers(PaidElsewhere x) { this.x = x; }

    static List<Long> of(PaidElsewhere x) {
      Answers all = new Answers(x);
      all.figures();
      all.latestWeeks();
      all.acts();
      all.shelves();
      all.changes();
      all.lawAndTape();
      return all.found;
    }

    private long ask(long answer) {
      found.add(answer);
      return answer;
    }

    private void figures() {
      long streets = ask(x.count(0)), windows = ask(x.count(1)), players = ask(x.count(2));
      for (int what = 3; what < 6; what++) ask(x.count(what));
      for (int k = 0; k < streets; k++) for (int what = 20; what < 24; what++) ask(x.of(k, what));
      for (int w = 0; w < windows; w++) for (int what = 10; what < 14; what++) ask(x.of(w, what));
      for (int p = 0; p < players; p++) for (int what = 0; what < 4; what++) ask(x.of(p, what));
    }

    private void latestWeeks() {
      for (int p = 0; p < x.count(2); p++) for (int what = 0; what < 2; what++) ask(x.week(p, what));
      for (int k = 0; k < x.count(0); k++) for (int what = 2; what < 5; what++) ask(x.week(k, what));
    }

    private void acts() {
      long ran = ask(x.count(6));
      for (int i = 0; i <= ran; i++) ask(x.trace(i));
    }

    private void shelves() {
      for (int shelf = 0; shelf < 6; shelf++) {
        long kind = ask(x.taken(shelf, 0));
        if (kind != OTHER_KIND) continue;
        for (int i : new int[] {0, 1, 2, 3, 4, 7, 59}) ask(x.element(shelf, i));
        // what comes back of many bits tells the sort
        ask(x.put(shelf, 0, 0x7f80_4080_8181_8182L));
        ask(x.element(shelf, 0));
      }
    }

    private void changes() {
      int mends = x.count(4);
      for (int i = 0; i <= 40 && ask(x.redo()) != STATE; i++) mends++;
      for (int i = 0; i <= 40 && ask(x.undo()) != STATE; i++) mends++;
      if (mends == 0) return;
      for (int w = 0; w < x.count(1); w++) for (int what = 11; what < 13; what++) ask(x.of(w, what));
      for (int k = 0; k < x.count(0); k++) ask(x.of(k, 20));
    }

    private void lawAndTape() {
      whereAllGo();
      ask(x.law());
      whereAllGo();
    }

    private void whereAllGo() {
      ask(x.weeks(2, 0));
      for (int p = 0; p < x.count(2); p++) ask(x.week(p, 0));
    }
  }
}
