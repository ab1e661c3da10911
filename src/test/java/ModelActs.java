import java.util.ArrayList;
import java.util.List;

/** The kinds as the host's own classes, so that it is the host who says which body runs. */
final class ModelActs {
  /** All numbers of the latest act. */
  static final List<Integer> ran = new ArrayList<>();

  interface Waits {
    int number();
    default int waits(int x) { ran.add(1); return x + number(); }
  }

  interface Tells {
    int pays(int x);
    int hears(int x);
    default int tells(int x) { ran.add(2); return pays(x) - hears(1); }
  }

  static class Window implements Waits, Tells {
    int n;
    public int number() { return n; }
    public int pays(int x) { ran.add(10); return waits(x) * 2; }
    public int hears(int x) { ran.add(11); return x ^ n; }
    int kind() { return 0; }
  }

  static class Wait extends Window {
    public int waits(int x) { ran.add(20); return super.waits(x) + 3; }
    int kind() { return 1; }
  }

  static class Pay extends Window {
    public int pays(int x) { ran.add(30); return -super.pays(x); }
    int kind() { return 2; }
  }

  static class Never extends Wait {
    public int hears(int x) { ran.add(40); return super.hears(x) * 3; }
    public int waits(int x) { ran.add(41); return super.waits(x + 1); }
    int kind() { return 3; }
  }

  static class Fund extends Pay {
    public int hears(int x) { ran.add(50); return super.hears(x) - waits(2); }
    int kind() { return 4; }
  }

  static class Fetch extends Window {
    public int tells(int x) { ran.add(60); return super.tells(x) ^ 5; }
    int kind() { return 5; }
  }

  static class Told extends Window {
    public int waits(int x) { ran.add(70); return super.waits(x) * 2; }
    int kind() { return 6; }
  }

  static class Standing extends Fund {
    public int pays(int x) { ran.add(80); return super.pays(x) + hears(2); }
    public int tells(int x) { ran.add(81); return super.tells(x) - 1; }
    int kind() { return 7; }
  }

  static Window make(int kind, int n) {
    Window[] one = {new Window(), new Wait(), new Pay(), new Never(), new Fund(), new Fetch(), new Told(), new Standing()};
    one[kind].n = n;
    return one[kind];
  }
}
