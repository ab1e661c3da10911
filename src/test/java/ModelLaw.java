/** THE LAW read straight off its text, each time anew; a FAULT found by trying how a text could go on. */
final class ModelLaw {
  private final String text;
  private final int[] facts;
  private int at = 0;
  private int open = 0;

  private ModelLaw(String text, int[] facts) {
    this.text = text;
    this.facts = facts;
  }

  private static final class No extends RuntimeException { }

  /** What a TEXT says; null if it is none. */
  private static Integer said(String text, int[] facts) {
    try {
      return new ModelLaw(text, facts).lines();
    } catch (No none) {
      return null;
    }
  }

  static int worth(String text, int[] facts) { return said(text, facts); }

  /** -1: it is a TEXT. */
  static int fault(String text) {
    if (said(text, new int[8]) != null) return -1;
    for (int i = 0; i < text.length(); i++) if (!goesOn(text.substring(0, i + 1))) return i;
    return text.length();
  }

  private static boolean goesOn(String start) {
    for (int closed = 0; closed <= 6; closed++) {
      if (said(start + ")".repeat(closed), new int[8]) != null) return true;
      if (said(start + "t" + ")".repeat(closed), new int[8]) != null) return true;
    }
    return false;
  }

  private int lines() {
    Integer found = null;
    while (true) {
      int first = e();
      boolean counts = true;
      if (took('?')) { counts = first != 0; first = e(); }
      if (counts && found == null) found = first;
      if (at == text.length()) return found == null ? 0 : found;
      if (!took(';')) throw new No();
    }
  }

  private boolean took(char c) {
    if (at < text.length() && text.charAt(at) == c) { at++; return true; }
    return false;
  }

  private int e() {
    int v = a();
    while (took('|')) v = truth(v != 0 | a() != 0);
    return v;
  }

  private int a() {
    int v = b();
    while (took('&')) v = truth(v != 0 & b() != 0);
    return v;
  }

  private int b() {
    int v = s();
    if (took('<')) return truth(v < s());
    if (took('=')) return truth(v == s());
    if (took('>')) return truth(v > s());
    return v;
  }

  private int s() {
    int v = p();
    while (true) {
      if (took('+')) v += p();
      else if (took('-')) v -= p();
      else return v;
    }
  }

  private int p() {
    int v = o();
    while (true) {
      if (took('*')) v *= o();
      else if (took('/')) { int by = o(); v = by == 0 ? 0 : v / by; }
      else if (took('%')) { int by = o(); v = by == 0 ? 0 : v % by; }
      else return v;
    }
  }

  private int o() {
    if (at == text.length()) throw new No();
    char c = text.charAt(at);
    if (c >= '0' && c <= '9') {
      int from = at;
      while (at < text.length() && at < from + 4 && text.charAt(at) >= '0' && text.charAt(at) <= '9') at++;
      return Integer.parseInt(text.substring(from, at));
    }
    at++;
    switch (c) {
      case 't': return facts[0];
      case 'c': return facts[1];
      case 'p': return facts[2];
      case 'h': return facts[3];
      case 'n': return facts[4];
      case 'g': return facts[5];
      case 'k': return facts[6];
      case 's': return facts[7];
      default:
    }
    if (c != '(' && c != '!' && c != '-' || ++open > 6) throw new No();
    int v = c == '(' ? e() : c == '!' ? truth(o() == 0) : -o();
    if (c == '(' && !took(')')) throw new No();
    open--;
    return v;
  }

  private static int truth(boolean b) { return b ? 1 : 0; }
}
