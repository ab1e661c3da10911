/** The edges of promises 13 and 14: THE TAPE, and THE LAW as a text. */
public final class EdgesLawTest {
  private static final int BAD = Edges.BAD, FULL = Edges.FULL, LOW = Edges.LOW, HIGH = Edges.HIGH;
  private static final String DIGITS = "0123456789", NAMES = "tcphngks", SIGNS = "+-*/%<=>&|", OPENERS = "!-(";

  public static void main(String[] args) {
    feed();
    feedFull();
    lawEmpty();
    firstBytes();
    nextBytes();
    numbers();
    open();
    lines();
    faults();
    tooEarly();
    wraps();
    byNothing();
    truths();
    linesThatCount();
    names();
    withoutText();
    Edges.end(13, 14);
  }

  private static void edge(int promise, String sentence, Edges.Case it) { Edges.edge(promise, sentence, it); }
  private static void due(long got, long want) { Edges.due(got, want); }
  private static void refused(Edges.Setup setup, long want, Edges.Call call) { Edges.refused(setup, want, call); }

  /** law()'s answer to the text, on a new object. */
  private static int read(String text) { return Towns.law(new PaidElsewhere(), text); }

  /** The text is a TEXT; with a byte more at its end it is none from there on. */
  private static void good(String text) {
    due(read(text), 1);
    due(read(text + " "), -100 - text.length());
  }

  private static void fault(String text, int place) { due(read(text), -100 - place); }

  /** Whether the text is worth more than 0 to a player at street 1 of two, TAKE 40 and 9, with COST 3, HEARS 70, GOOD 6. */
  private static boolean isAbove0(String text, int street) {
    PaidElsewhere x = Towns.streets(40, 9);
    x.player(603, 70, 1);
    due(Towns.law(x, "k=" + street + "?" + text + ";0"), 1);
    x.weeks(1, 0);
    return x.week(0, 0) == street;
  }

  private static void worth(String text, String value) { due(isAbove0("(" + text + ")=" + value, 0) ? 1 : 0, 1); }
  private static void isTrue(String text) { due(isAbove0(text, 0) ? 1 : 0, 1); }

  private static void feed() {
    edge(13, "n (1 .. 4) bytes come to THE TAPE", () -> {
      for (int n : new int[] {0, -1, 5, 100, LOW, HIGH}) refused(Towns::rich, BAD, x -> x.feed(n, '1'));
      for (int n = 1; n <= 4; n++) {
        PaidElsewhere x = new PaidElsewhere();
        due(x.feed(n, 0x31313131), n);
        due(x.count(3), n);
        due(x.law(), 1);
      }
    });
    edge(13, "the lowest of v first: how many it has", () -> {
      // "1+2?" by its first three bytes, then by all four
      int v = '1' | '+' << 8 | '2' << 16 | '?' << 24;
      PaidElsewhere x = new PaidElsewhere();
      due(x.feed(3, v), 3);
      due(x.law(), 1);
      due(x.feed(4, v), 4);
      due(x.law(), -104);
      due(x.feed(2, v), 2);
      due(x.law(), -102);
    });
    edge(13, "the lowest of v first: how many it has", () -> {
      // bytes above 127, and a v below 0: none of them is a sign of the text, none spoils the others
      PaidElsewhere x = new PaidElsewhere();
      due(x.feed(4, -1), 4);
      due(x.law(), -100);
      due(x.feed(4, '1' | 0x80 << 24), 4);
      due(x.law(), -101);
      due(x.feed(1, 0xffffff00 | '7'), 1);
      due(x.law(), 1);
      due(x.feed(1, LOW | '7'), 1);
      due(x.law(), 1);
      due(x.feed(3, HIGH), 3);
      due(x.law(), -100);
    });
  }

  private static int ones(PaidElsewhere x, int bytes) {
    return Towns.feed(x, "1" + "+1".repeat((bytes - 1) / 2) + (bytes % 2 == 0 ? ";" : ""));
  }

  private static void feedFull() {
    edge(13, "THE LAW is a TEXT by THE TAPE (at most 120 bytes)", () -> {
      for (int n = 1; n <= 4; n++) {
        for (int room = 0; room <= 4; room++) {
          int bytes = n, ahead = 120 - room;
          if (n > room) refused(x -> ones(x, ahead), FULL, x -> x.feed(bytes, 0x31313131));
          PaidElsewhere y = new PaidElsewhere();
          ones(y, ahead);
          due(y.feed(n, 0), n > room ? FULL : ahead + n);
          due(y.count(3), n > room ? ahead : ahead + n);
        }
      }
    });
    edge(13, "Answers, of several the one named first: BAD (-1)", () -> {
      for (int n : new int[] {0, -1, 5, LOW, HIGH}) refused(x -> ones(x, 120), BAD, x -> x.feed(n, 1));
    });
    edge(13, "THE TAPE is empty then", () -> {
      // by a law or by a FAULT: then there is room for 120 again
      PaidElsewhere x = new PaidElsewhere();
      for (String end : new String[] {"+1", " 1"}) {
        Towns.feed(x, "1" + "+1".repeat(58) + end);
        due(x.count(3), 119);
        due(x.law(), end.charAt(0) == '+' ? 1 : -217);
        due(x.count(3), 0);
        for (int i = 1; i <= 30; i++) due(x.feed(4, 0), 4 * i);
        due(x.feed(1, 0), FULL);
        due(x.law(), -100);
      }
    });
  }

  private static void lawEmpty() {
    edge(14, "the length, if it ends too early", () -> {
      // an empty tape ends too early at once, and leaves THE LAW as it is
      due(new PaidElsewhere().law(), -100);
      PaidElsewhere x = Towns.streets(0, 0);
      x.player(0, 0, 0);
      due(Towns.law(x, "k"), 1);
      due(x.law(), -100);
      due(x.law(), -100);
      x.weeks(1, 0);
      due(x.week(0, 0), 1);
    });
    edge(14, "THE TAPE becomes THE LAW: 1; -100 less its FAULT; THE TAPE is empty then.", () -> {
      PaidElsewhere x = Towns.streets(0, 0);
      x.player(0, 0, 0);
      due(Towns.law(x, "k"), 1);
      due(x.count(3), 0);
      // a FAULT: THE LAW stays, though some of the faulty one was good
      due(Towns.law(x, "!k;z"), -103);
      due(x.count(3), 0);
      x.weeks(1, 0);
      due(x.week(0, 0), 1);
      due(Towns.law(x, "!k"), 1);
      x.weeks(1, 0);
      due(x.week(0, 0), 0);
      // what is fed has no part in THE LAW before law() is called
      Towns.feed(x, "k");
      x.weeks(1, 0);
      due(x.week(0, 0), 0);
    });
    edge(14, "THE TAPE becomes THE LAW: 1; -100 less its FAULT; THE TAPE is empty then.", () -> {
      // a FAULT ahead of any LAW: it is without a text still
      PaidElsewhere x = Towns.streets(5, 9);
      x.player(0, 0, -1);
      due(Towns.law(x, "t+"), -102);
      x.weeks(1, 0);
      due(x.week(0, 0), 1);
    });
  }

  private static void firstBytes() {
    edge(14, "O = a number (1 to 4 digits), a NAME, ! O, - O, ( E ). No blanks.", () -> {
      // each byte ahead of all others
      for (int b = 0; b < 256; b++) {
        PaidElsewhere x = new PaidElsewhere();
        x.feed(1, b);
        boolean whole = (DIGITS + NAMES).indexOf(b) >= 0, begins = OPENERS.indexOf(b) >= 0;
        due(x.law(), whole ? 1 : begins ? -101 : -100);
      }
    });
    edge(14, "O = a number (1 to 4 digits), a NAME, ! O, - O, ( E ). No blanks.", () -> {
      // each byte behind each sign that wants an O
      for (char sign : (SIGNS + OPENERS + "?;").toCharArray()) {
        String ahead = OPENERS.indexOf(sign) >= 0 ? "" + sign : "1" + sign;
        for (int b = 0; b < 256; b++) {
          PaidElsewhere x = new PaidElsewhere();
          Towns.feed(x, ahead + (char) b);
          boolean whole = (DIGITS + NAMES).indexOf(b) >= 0, begins = OPENERS.indexOf(b) >= 0;
          int length = ahead.length() + 1, fault = whole ? sign == '(' ? length : -1 : begins ? length : length - 1;
          due(x.law(), fault < 0 ? 1 : -100 - fault);
        }
      }
    });
  }

  private static void nextBytes() {
    edge(14, "the place (from 0) of the first byte with which no TEXT goes on", () -> {
      // each byte behind an O: a number goes on by a digit, all others by signs alone
      for (String o : new String[] {"1", "123", "1234", "t", "s", "(1)", "!1234", "-c"}) {
        boolean goesOnByDigit = o.equals("1") || o.equals("123");
        for (int b = 0; b < 256; b++) {
          boolean digit = DIGITS.indexOf(b) >= 0, sign = (SIGNS + "?;").indexOf(b) >= 0;
          due(read(o + (char) b), digit && goesOnByDigit ? 1 : -100 - (sign ? o.length() + 1 : o.length()));
        }
      }
    });
    edge(14, "the place (from 0) of the first byte with which no TEXT goes on", () -> {
      // each byte within a bracket: neither ? nor ; but ) goes on
      for (int b = 0; b < 256; b++) {
        boolean goesOn = (DIGITS + SIGNS).indexOf(b) >= 0;
        due(read("(1" + (char) b), b == ')' ? 1 : -100 - (goesOn ? 3 : 2));
      }
    });
    edge(14, "the place (from 0) of the first byte with which no TEXT goes on", () -> {
      // the first such byte counts, whatever comes behind
      fault("z1+", 0);
      fault("1 +", 1);
      fault("1+z)(12345", 2);
      fault("(1))1", 3);
      fault("\u00001", 0);
      fault("1\u00ff", 1);
      fault("T", 0);
    });
  }

  private static void numbers() {
    edge(14, "O = a number (1 to 4 digits)", () -> {
      for (String number : new String[] {"0", "00", "000", "0000", "9", "9999", "0001"}) good(number);
      fault("00000", 4);
      fault("12345", 4);
      fault("1+12345", 6);
      fault("(12345)", 5);
      fault("-99999", 5);
      due(read("1234+1234"), 1);
      worth("0001", "1");
      worth("9999-9990", "9");
      worth("0000", "0");
    });
  }

  private static void open() {
    edge(14, "At most 6 of ( ! - ahead of an O are open at once.", () -> {
      for (String opener : new String[] {"(", "!", "-"}) {
        String closer = opener.equals("(") ? ")" : "";
        for (int n = 1; n <= 6; n++) good(opener.repeat(n) + "1" + closer.repeat(n));
        for (int n = 7; n <= 9; n++) fault(opener.repeat(n) + "1" + closer.repeat(n), 6);
      }
    });
    edge(14, "At most 6 of ( ! - ahead of an O are open at once.", () -> {
      // of all three sorts together, in each order
      good("(!-(!-1))");
      fault("(!-(!-(1)))", 6);
      fault("(!-(!-!1))", 6);
      fault("(!-(!--1))", 6);
      good("1--!(-!(k))");
      fault("1--!(-!(!k))", 8);
    });
    edge(14, "At most 6 of ( ! - ahead of an O are open at once.", () -> {
      // what is closed is open no more: a bracket by its ), ! and - by their O
      good("(1)+(2)+(3)+(4)+(5)+(6)+(7)+(8)");
      good("!1+!1+!1+!1+!1+!1+!1+!1");
      good("-1--1--1--1--1--1--1--1");
      good("(((((1)+(2)))))");
      good("(((((!1+-2)))))");
      fault("((((((1+(2", 8);
      fault("((((((1+!2", 8);
      good("((((((1))))))+((((((1))))))");
      good("!!!!!!1?!!!!!!1;!!!!!!1");
      // in each E of each LINE as many
      fault("1?!!!!!!!1", 8);
      fault("1?((((((-1", 8);
      fault("1;-------1", 8);
      fault("1;1?((((((!1", 10);
      // the - between two P opens nothing
      good("((((((1-1-1-1-1-1-1-1))))))");
    });
  }

  private static void lines() {
    edge(14, "LINES, one or more, parted by ;", () -> {
      fault(";", 0);
      fault(";1", 0);
      fault("1;;1", 2);
      fault("1;", 2);
      fault("1;2;", 4);
      good("1;2");
      good("1" + ";1".repeat(59));
      fault("1" + ";1".repeat(59) + ";", 120);
    });
    edge(14, "LINE: E, or E ? E (what counts if the first is not 0)", () -> {
      good("1?2");
      good("1?2;3?4");
      fault("1?2?3", 3);
      fault("?1", 0);
      fault("1??2", 2);
      fault("1?;2", 2);
      fault("(1?2)", 2);
      fault("(1;2)", 2);
      fault("1?2;?", 4);
    });
    edge(14, "B = S, or S < S, S = S, S > S", () -> {
      for (String first : new String[] {"<", "=", ">"}) {
        good("1" + first + "2");
        for (String second : new String[] {"<", "=", ">"}) {
          fault("1" + first + "2" + second + "3", 3);
          fault("1" + first + second + "3", 2);
          good("(1" + first + "2)" + second + "3");
          good("1" + first + "2&1" + second + "2");
          good("1" + first + "2|1" + second + "2");
          good("1" + first + "2?1" + second + "2");
        }
      }
    });
  }

  private static void faults() {
    edge(14, "No blanks.", () -> {
      fault(" 1", 0);
      fault("1 ", 1);
      fault("1+ 1", 2);
      fault("1\n", 1);
      fault("1;\t2", 2);
      fault("12 34", 2);
    });
    edge(14, "O = a number (1 to 4 digits), a NAME, ! O, - O, ( E ). No blanks.", () -> {
      fault("()", 1);
      fault(")", 0);
      fault("(1))", 3);
      fault("tt", 1);
      fault("1t", 1);
      fault("t1", 1);
      fault("1(2)", 1);
      fault("(1)(2)", 3);
      fault("+1", 0);
      fault("1!2", 1);
      fault("1+*2", 2);
      good("1+-2");
      good("1*!2");
    });
  }

  private static void tooEarly() {
    edge(14, "the length, if it ends too early", () -> {
      for (char sign : SIGNS.toCharArray()) fault("1" + sign, 2);
      for (String text : new String[] {"(", "((", "(1", "((1)", "!", "-", "!-", "1?", "1;", "1?2;", "(1+", "!!!!!!", "(((((("}) {
        fault(text, text.length());
      }
    });
    edge(14, "THE LAW is a TEXT by THE TAPE (at most 120 bytes)", () -> {
      // a whole tape of 120 bytes may be a TEXT, end too early, or have its FAULT in the last byte
      due(read("12+1" + "+1".repeat(58)), 1);
      fault("1" + "+1".repeat(59) + "+", 120);
      fault("1" + "+1".repeat(59) + ")", 119);
      due(read("(".repeat(6) + "1".repeat(4) + "*1".repeat(52) + ")".repeat(6)), 1);
    });
  }

  private static void wraps() {
    edge(14, "Ints that wrap", () -> {
      // 2048 * 1024 * 1024 is the least int
      String least = "(2048*1024*1024)";
      isTrue(least + "<0");
      isTrue(least + "-1>0");
      isTrue("0-1+" + least + ">0");
      isTrue("-" + least + "=" + least);
      isTrue(least + "*-1=" + least);
      isTrue(least + "+" + least + "=0");
      isTrue("4096*1024*1024=0");
      isTrue("2047*1024*1024+1024*1024-1>0");
      isTrue("2047*1024*1024+1024*1024-1+1<0");
      // 9999 * 9999 * 9999 is 999700029999: less 233 times 4294967296 it is -1027349969
      isTrue("9999*9999*9999=-1027*1000*1000-349*1000-969");
    });
    edge(14, "/ and % toward 0", () -> {
      String least = "(2048*1024*1024)";
      isTrue(least + "/-1=" + least);
      isTrue(least + "%-1=0");
      worth("7/2", "3");
      worth("-7/2", "-3");
      worth("7/-2", "-3");
      worth("-7/-2", "3");
      worth("7%4", "3");
      worth("-7%4", "-3");
      worth("7%-4", "3");
      worth("-7%-4", "-3");
      worth("1/2", "0");
      worth("-1/2", "0");
    });
  }

  private static void byNothing() {
    edge(14, "by 0 they give 0", () -> {
      worth("7/0", "0");
      worth("7%0", "0");
      worth("0/0", "0");
      worth("0%0", "0");
      worth("-7/0", "0");
      worth("5+7/(3-3)", "5");
      worth("5+7%(p*2)", "5");
      worth("(2048*1024*1024)/0", "0");
      worth("(2048*1024*1024)%0", "0");
    });
    edge(14, "all is worked out", () -> {
      worth("1|1/0", "1");
      worth("0&1/0", "0");
      worth("1/0|1", "1");
      worth("0|0|0|3", "1");
      worth("1&2&3&0", "0");
      worth("0|1&0", "0");
      worth("1|1&0", "1");
    });
  }

  private static void truths() {
    edge(14, "| & < = > ! give 1, 0", () -> {
      String[][] due = {{"0|0", "0"}, {"0|7", "1"}, {"-7|0", "1"}, {"5|6", "1"}, {"0&0", "0"}, {"0&7", "0"}, {"7&0", "0"},
          {"5&6", "1"}, {"-5&6", "1"}, {"2&1", "1"}, {"!0", "1"}, {"!1", "0"}, {"!-1", "0"}, {"!99", "0"}, {"!!99", "1"},
          {"2<3", "1"}, {"3<3", "0"}, {"4<3", "0"}, {"3=3", "1"}, {"3=4", "0"}, {"4>3", "1"}, {"3>3", "0"}, {"2>3", "0"},
          {"-1<0", "1"}, {"0>-1", "1"}};
      for (String[] one : due) worth(one[0], one[1]);
    });
    edge(14, "| & < = > ! give 1, 0", () -> {
      // from the least int to the most, where a difference would wrap
      String least = "2048*1024*1024", most = "(2048*1024*1024-1)";
      worth(least + "<" + most, "1");
      worth(most + ">" + least, "1");
      worth(most + "<" + least, "0");
      worth(least + "=" + most, "0");
    });
    edge(14, "S = P { + P, - P }. P = O { * O, / O, % O }.", () -> {
      worth("9-3-2", "4");
      worth("9-3+2", "8");
      worth("80/4/2", "10");
      worth("80/4*2", "40");
      worth("17%10%4", "3");
      worth("2+3*4", "14");
      worth("-2*3+7", "1");
      worth("!0+1", "2");
      worth("1+2<2+2", "1");
    });
  }

  private static void linesThatCount() {
    edge(14, "The first LINE without a first E, or whose first E is not 0, counts; none: 0.", () -> {
      // what is worth more than 0 at street 1, TAKE 9, of TAKES 40 and 9
      String[] texts = {"0?1;k", "0?1;0?1;k", "1?k;1", "-1?k;1", "k;1", "k?1;0", "0-1?k;1", "1?0;k+1", "0?1", "0?1;0?2", "0?1;0"};
      int[] goesTo = {1, 1, 1, 1, 1, 1, 1, -1, -1, -1, -1};
      for (int i = 0; i < texts.length; i++) {
        PaidElsewhere x = Towns.streets(40, 9);
        x.player(0, 0, 0);
        due(Towns.law(x, texts[i]), 1);
        x.weeks(1, 0);
        due(x.week(0, 0), goesTo[i]);
      }
    });
    edge(14, "The first LINE without a first E, or whose first E is not 0, counts; none: 0.", () -> {
      // the last of sixty lines, with the tape full
      PaidElsewhere x = Towns.streets(40, 9);
      x.player(0, 0, 0);
      due(Towns.law(x, "0?1;".repeat(29) + "0;1"), 1);
      due(x.weeks(1, 0), 0);
      due(Towns.law(x, "0?1;".repeat(29) + "k;1"), 1);
      due(x.weeks(1, 0), 1);
      due(x.week(0, 0), 1);
    });
  }

  private static void names() {
    edge(14, "NAMES: t TAKE, c COST, p what was paid there in the WEEK ahead (to all), h HEARS", () -> {
      String[] at0 = {"t=40", "c=3", "p=0", "h=70", "n=0", "g=6", "k=0", "s=0"};
      String[] at1 = {"t=9", "c=3", "p=0", "h=70", "n=1", "g=6", "k=1", "s=1"};
      for (int i = 0; i < 8; i++) {
        due(isAbove0(at0[i], 0) ? 1 : 0, 1);
        due(isAbove0(at1[i], 1) ? 1 : 0, 1);
      }
    });
    edge(14, "s 1, if one was there oneself", () -> {
      // another one who was there is none oneself; nowhere is no street
      PaidElsewhere x = Towns.streets(0, 0);
      x.player(0, 0, 1);
      x.player(0, 0, 0);
      x.player(0, 0, -1);
      due(Towns.law(x, "s"), 1);
      due(x.weeks(1, 0), 2);
      int[] where = {1, 0, -1};
      for (int p = 0; p < 3; p++) due(x.week(p, 0), where[p]);
    });
  }

  private static void withoutText() {
    edge(14, "Without a text: TAKE less COST less 10 n.", () -> {
      // nobody goes for 0, somebody for 1: TAKE 30, one there
      int[] cost = {19, 20, 21}, goes = {0, -1, -1};
      for (int i = 0; i < 3; i++) {
        PaidElsewhere x = Towns.streets(30);
        x.player(cost[i], 0, 0);
        x.weeks(1, 0);
        due(x.week(0, 0), goes[i]);
      }
      PaidElsewhere x = Towns.streets(30);
      x.player(29, 0, -1);
      due(x.weeks(1, 0), 1);
      PaidElsewhere y = Towns.streets(30);
      y.player(30, 0, -1);
      due(y.weeks(1, 0), 0);
    });
  }
}
