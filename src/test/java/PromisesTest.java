import java.util.NoSuchElementException;

/** For each promise of the document: ordinary calls, the edges that it names, and wrong ones. */
public final class PromisesTest {
  private static final int NONE = PowersHouse.NONE;
  private static final long MIN = Long.MIN_VALUE;
  private static int wrong = 0;
  private static int checked = 0;
  private static String part = "";

  public static void main(String[] args) {
    newObject();
    feed();
    orders();
    faults();
    faultsOfTooMuch();
    values();
    names();
    landsAndNear();
    states();
    holdAndWay();
    wayBeyondTwenty();
    claims();
    worthBoundHas();
    offerRefusals();
    notesAndSpies();
    daysAndLapse();
    askingHome();
    chainsBindOrVoid();
    chainsOfLaterLinks();
    whyAndTries();
    settlements();
    stability();
    bestOfSeveral();
    spent();
    cores();
    withoutOne();
    swaps();
    drafts();
    bases();
    heldWords();
    openArticles();
    reserves();
    leaving();
    looks();
    counts();
    System.out.println(checked + " answers checked, " + wrong + " are not as due");
    if (wrong != 0) {
      System.exit(1);
    }
  }

  private static void due(String call, long got, long want) {
    checked++;
    if (got != want) {
      wrong++;
      System.out.println(part + ": " + call + " answered " + got + ", due is " + want);
    }
  }

  private static void yes(String call, boolean got) {
    due(call, got ? 1 : 0, 1);
  }

  private static void no(String call, boolean got) {
    due(call, got ? 1 : 0, 0);
  }

  /** Feeds a text (filled up with blanks) and makes it the ORDERS of a STATE. */
  private static int told(PowersHouse x, int state, String text) {
    StringBuilder sb = new StringBuilder(text);
    while (sb.length() % 20 != 0) {
      sb.append(' ');
    }
    for (int k = 0; k < sb.length(); k += 20) {
      int[] n = new int[5];
      for (int i = 0; i < 20; i++) {
        n[i / 4] = n[i / 4] << 8 | sb.charAt(k + i) & 255;
      }
      x.feed(n[0], n[1], n[2], n[3], n[4]);
    }
    return x.orders(text.length(), state);
  }

  /** A house with so many LANDS (SOULS 10, 20 ..) and STATES (RANK 0, 1 .., HOME 0). */
  private static PowersHouse house(int lands, int states) {
    PowersHouse x = new PowersHouse();
    for (int k = 0; k < lands; k++) {
      x.land(10 * (k + 1));
    }
    for (int k = 0; k < states; k++) {
      x.state(k, 0);
    }
    return x;
  }

  private static void newObject() {
    part = "1 a new object";
    PowersHouse x = new PowersHouse();
    for (int what = 0; what < 8; what++) {
      due("count(" + what + ")", x.count(what), 0);
    }
    due("fault(0)", x.fault(0), 0);
    due("fault(1)", x.fault(1), NONE);
    due("orders(0, 0)", x.orders(0, 0), -2);
    due("settle(0)", x.settle(0), 0);
    due("settle(1)", x.settle(1), 1);
    due("best(12)", x.best(12), NONE);
    due("core()", x.core(), 0);
    due("judge(0)", x.judge(0), 3);
    due("swap(0)", x.swap(0), 0);
    due("paper(0, 0)", x.paper(0, 0), -2);
    due("way(0, 0, 0)", x.way(0, 0, 0), -2);
    due("laid(0, 0)", x.laid(0, 0), NONE);
    due("feed", x.feed(0, 0, 0, 0, 0), 20);
    due("NONE", PowersHouse.NONE, -1);
  }

  private static void feed() {
    part = "2 feed";
    PowersHouse x = house(0, 1);
    for (int k = 1; k <= 20; k++) {
      due("feed " + k, x.feed(0x20202020, 0x20202020, 0x20202020, 0x20202020, 0x20202020), 20 * k);
    }
    due("a 21st", x.feed(0, 0, 0, 0, 0), NONE);
    due("orders(401, 0)", x.orders(401, 0), -2);
    due("400 blanks are no line", x.orders(400, 0), 0);
    due("the TAPE was empty", x.feed(1, 2, 3, 4, 5), 20);
    // 't' 'a' 'k' 'e' in the first number, the highest byte first; '1' and ';' in the last one.
    x = house(0, 1);
    x.feed(0x74616b65, 0x20202020, 0x0a0a0a0a, 0x20202020, 0x20312020);
    x.feed(0x3b000000, 0, 0, 0, 0);
    due("take 1;", x.orders(21, 0), 1);
    x.feed(0x656b6174, 0x20202020, 0x20202020, 0x20202020, 0x2020313b);
    due("bytes the other way round", x.orders(20, 0), NONE);
    x.feed(0x80ffff80, -1, -1, -1, Integer.MIN_VALUE);
    due("bytes above 127", x.orders(1, 0), NONE);
    due("bytes above 127", x.fault(0), 1);
    due("bytes above 127", x.fault(1), 0);
  }

  private static void orders() {
    part = "3 orders";
    PowersHouse x = house(1, 2);
    due("no text", x.orders(0, 1), 0);
    due("n below 0", x.orders(-1, 0), -2);
    due("n far below 0", x.orders(Integer.MIN_VALUE, 0), -2);
    x.feed(0x74616b65, 0x20313b20, 0x20202020, 0x20202020, 0x20202020);
    due("no such STATE", x.orders(7, 2), -2);
    due("no such STATE", x.orders(7, -1), -2);
    due("not so many", x.orders(21, 0), -2);
    due("the TAPE stays", x.feed(0, 0, 0, 0, 0), 40);
    due("n below the length", x.orders(7, 0), 1);
    due("it is empty then", x.orders(1, 0), -2);
    due("four lines", told(x, 0, "take 1;refuse 2 ; ask 3;\nhome 4;"), 4);
    due("sixteen lines", told(x, 0, "ask 1;".repeat(16)), 16);
    due("words by signs and digits", told(x, 0, "take1or2and not(3);"), 1);
    due("a text of 400", told(x, 0, "take 1;" + " ".repeat(385) + "take 2;\n"), 2);
    // A text with a FAULT isn't ORDERS: those that the STATE has stay.
    due("a FAULT", told(x, 0, "take"), NONE);
    x.offer(1, 0, 1, 0, 9, NONE);
    due("ORDERS before a FAULT", x.tries(0, 1), 2);
    due("it is empty after a FAULT, too", x.orders(1, 0), -2);
    due("orders of no lines", x.orders(0, 0), 0);
    due("no lines then", x.tries(0, 0), MIN);
    x.leave(0);
    due("of a STATE that left", told(x, 0, "take 5;"), 1);
  }

  private static void fault(String text, int kind, int place) {
    PowersHouse x = house(0, 1);
    due("[" + text + "]", told(x, 0, text), kind == 0 ? text.split(";", -1).length - 1 : NONE);
    due("[" + text + "] fault", x.fault(0), kind);
    due("[" + text + "] place", x.fault(1), kind == 0 ? NONE : place);
  }

  private static void faults() {
    part = "4 fault 1";
    fault("take 1;", 0, 0);
    fault("", 0, 0);
    fault(" \n ", 0, 0);
    fault("give 1;", 1, 0);
    fault("  takes 1;", 1, 2);
    fault("tak", 1, 0);
    fault("Take 1;", 1, 0);
    fault("take", 1, 4);
    fault("take  \n", 1, 7);
    fault("take 1", 1, 6);
    fault("take 1 +", 1, 8);
    fault("take (1", 1, 7);
    fault("take ;", 1, 5);
    fault("take 1;;", 1, 7);
    fault("take 1 2;", 1, 7);
    fault("take gain got;", 1, 10);
    fault("take 1) ;", 1, 6);
    fault("take (1;", 1, 7);
    fault("take ();", 1, 6);
    fault("take 1 not 2;", 1, 7);
    fault("take 1 + not 2;", 1, 9);
    fault("take 1 < not 2;", 1, 9);
    fault("take - not 1;", 1, 7);
    fault("take 1 + (not 2);", 0, 0);
    fault("take not not -- 1;", 0, 0);
    fault("take 1 and not 2 or not 3;", 0, 0);
    fault("take 1<2<3;", 1, 8);
    fault("take 1<2 and 2<3 or 3=4;", 0, 0);
    fault("take (1<2)<(3<4)+1;", 0, 0);
    fault("take (1<2)<3<4;", 1, 12);
    fault("take 1=(2=3);", 0, 0);
    fault("take not 1=2;", 0, 0);
    fault("take not (1)=2=3;", 1, 14);
    fault("take 1<=2;", 0, 0);
    fault("take 1< =2;", 1, 8);
    fault("take 1> =2;", 1, 8);
    fault("take 1< >2;", 1, 8);
    fault("take 1<>2;", 0, 0);
    fault("take 1><2;", 1, 7);
    fault("take 1==2;", 1, 7);
    fault("take 1=<2;", 1, 7);
    fault("take 1<=>2;", 1, 8);
    fault("take 1<>=2;", 1, 8);
    fault("take 1>=2;", 0, 0);
    fault("take *1;", 1, 5);
    fault("take +1;", 1, 5);
    fault("take 1*-+2;", 1, 8);
    fault("take 1 and;", 1, 10);
    fault("take 1 and or 2;", 1, 11);
    fault("take 1 take 2;", 1, 7);
    fault("take home;", 1, 5);
    fault("1;", 1, 0);
    fault("gain;", 1, 0);
    fault("not 1;", 1, 0);
    fault("take\t1;", 1, 4);
    fault("take 1\r;", 1, 6);
    fault("take 1\u0000;", 1, 6);
    fault("take g\u00e4in;", 1, 5);
    fault("take 1 & 2;", 1, 7);
    fault("take Gain;", 1, 5);
    fault("take gainn;", 1, 5);
    fault("take gai;", 1, 5);
    fault("take gain1;", 1, 9);
    fault("take gainz;", 1, 5);
    fault("take gaina;", 1, 5);
    fault("take gain`;", 1, 9);
    fault("take gain{;", 1, 9);
    fault("take 9/;", 1, 7);
    fault("take 9:;", 1, 6);
    fault("take 1;take 1;giv", 1, 14);
    PowersHouse x = house(0, 1);
    due("another what", x.fault(2), NONE);
    due("another what", x.fault(-1), NONE);
    told(x, 0, "take ;");
    due("orders that were -2", x.orders(99, 0), -2);
    due("don't count", x.fault(1), 5);
    told(x, 0, "take 2;");
    due("the latest", x.fault(0), 0);
  }

  private static void faultsOfTooMuch() {
    part = "4 fault 2";
    fault("take 99999;", 0, 0);
    fault("take 100000;", 2, 5);
    fault("take 000000000000099999;", 0, 0);
    fault("take 4294967297;", 2, 5);
    fault("take 18446744073709551617;", 2, 5);
    fault("take 1 100000;", 1, 7);
    fault("100000;", 1, 0);
    fault("take " + "(".repeat(8) + "1" + ")".repeat(8) + ";", 0, 0);
    fault("take " + "(".repeat(9) + "1" + ")".repeat(9) + ";", 2, 13);
    fault("take (1)+(1)+(1)+(1)+(1)+(1)+(1)+(1)+(1)+(1);", 0, 0);
    fault("take ((((((((1))))))))+((((((((1))))))));", 0, 0);
    fault("take ((((((((1 (;", 1, 15);
    fault("take -" + "+1".repeat(1) + ";", 1, 6);
    // 1 and 31 times +1 are 63 KNOTS, the minus is the 64th.
    fault("take -1" + "+1".repeat(31) + ";", 0, 0);
    fault("take --1" + "+1".repeat(31) + ";", 2, 5 + 8 - 1 - 5 + 62);
    fault("take 1" + "+1".repeat(32) + ";", 2, 6 + 63);
    fault("take 1" + "+1".repeat(31) + "*(1);", 2, 6 + 62 + 2);
    fault("take 1" + "+1".repeat(31) + "*1;", 2, 6 + 62 + 1);
    fault("take 1" + "+1".repeat(31) + "+;", 1, 6 + 62 + 1);
    fault("take not " + "not ".repeat(62) + "gain;", 0, 0);
    fault("take not " + "not ".repeat(63) + "gain;", 2, 9 + 252);
    fault("take not " + "not ".repeat(64) + "gain;", 2, 5 + 256);
    fault("take " + "1 and ".repeat(32) + "1;", 2, 5 + 192);
    fault("take " + "1 or ".repeat(31) + "day<day;", 2, 5 + 155 + 4);
    fault("take " + "1 = 1 or ".repeat(16) + "1;", 2, 5 + 144);
    fault("take " + "1 = 1 or ".repeat(15) + "2>=2 ;", 0, 0);
    // The KNOTS of all lines count, parentheses and semicolons don't.
    fault("take 1+2;".repeat(16), 0, 0);
    fault("take 1+2+1+2;".repeat(9) + "take 1;", 0, 0);
    fault("take 1+2+1+2;".repeat(9) + "take 1+1;", 2, 13 * 9 + 6);
    fault("take 1;".repeat(16), 0, 0);
    fault("take 1;".repeat(17), 2, 112);
    fault("take 1;".repeat(16) + "tak", 1, 112);
    fault("take 1;".repeat(16) + "  home", 2, 114);
  }

  private static void value(String e, long want) {
    PowersHouse x = house(1, 2);
    told(x, 1, "take " + e + ";");
    x.offer(0, 1, 1, 0, 9, NONE);
    due("VALUE of " + e, x.tries(0, 0), want);
    due("whether " + e + " holds", x.why(0), want == MIN || want == 0 ? NONE : 0);
  }

  private static void values() {
    part = "18 tries: values";
    value("7", 7);
    value("2+3*4", 14);
    value("(2+3)*4", 20);
    value("10-3-2", 5);
    value("100/10/5", 2);
    value("2*7%4", 2);
    value("7/2", 3);
    value("-7/2", -3);
    value("7/-2", -3);
    value("-7%3", -1);
    value("7%-3", 1);
    value("1---1", 0);
    value("2*-3", -6);
    value("-2*-3", 6);
    value("-(2+3)", -5);
    value("1<2", 1);
    value("2<2", 0);
    value("2<=2", 1);
    value("3<=2", 0);
    value("2=2", 1);
    value("2=3", 0);
    value("2<>3", 1);
    value("2<>2", 0);
    value("2>=3", 0);
    value("3>=3", 1);
    value("3>3", 0);
    value("3>2", 1);
    value("5 and 7", 1);
    value("5 and 0", 0);
    value("0 or 9", 1);
    value("0 or 0", 0);
    value("-3 or 0", 1);
    value("not 0", 1);
    value("not 5", 0);
    value("not not 5", 1);
    value("not 1=2", 1);
    value("not 0+1", 0);
    value("1 or 0 and 0", 1);
    value("(1 or 0) and 0", 0);
    value("not 0 and 0", 0);
    value("not (0 and 0)", 1);
    value("1+1=2 and 3*2>5", 1);
    value("(1<2)+(2<3)", 2);
    value("1/0", MIN);
    value("1%0", MIN);
    value("0/0", MIN);
    value("1 or 1/0", MIN);
    value("0 and 1/0", MIN);
    value("1/0 or 1", MIN);
    value("not 1/0", MIN);
    value("1/0 = 1/0", MIN);
    value("10000*10000*10000", 1000000000000L);
    value("10000*10000*10000+1", MIN);
    value("-10000*10000*10000", -1000000000000L);
    value("-10000*10000*10000-1", MIN);
    value("10000*10000*10000+1-1", MIN);
    value("99999*99999*100", 999980000100L);
    value("99999*99999*101", MIN);
    value("10000*10000*10000*(10000*10000*10000)", MIN);
    value("10000*10000*10000*(10000*10000*10000)*0", MIN);
    value("0*(10000*10000*10000)", 0);
    value("10000*10000*10000*0", 0);
    value("65536*65536*(65536*2)*32768", MIN);
    value("-1*(10000*10000*10000)", -1000000000000L);
    value("10000*10000*10000/3", 333333333333L);
  }

  private static void names() {
    part = "17, 18 names";
    PowersHouse x = new PowersHouse();
    for (int souls : new int[] {100, 20, 3, 4000, 500}) {
      x.land(souls);
    }
    x.state(11, 0);
    x.state(22, 0);
    x.state(33, 0);
    // 1 gets LANDS 0 and 1 and gives 2 and 3; it holds 2, 3 and 4.
    x.hold(0, 0);
    x.hold(1, 0);
    x.hold(2, 1);
    x.hold(3, 1);
    x.hold(4, 1);
    int[] worth = {7, 5, 3, 1, 40};
    for (int l = 0; l < 5; l++) {
      x.worth(1, l, worth[l]);
      x.worth(0, l, 99);
    }
    x.bound(1, 321);
    x.near(0, 2);
    x.near(1, 4);
    x.near(3, 4);
    x.days(4);
    told(x, 1, "take gain;take got;take lost;take souls;take near;take mine;take bound;"
        + "take rank;take other;take day;take left;take linked;");
    due("offer", x.offer(0, 1, 3, 12, 10, NONE), 0);
    due("linked offer", x.offer(2, 1, 3, 4, 20, 0), 1);
    long[] want = {8, 12, 4, 120 - 4003, 1, 44, 321, 22, 11, 4, 6, 0};
    for (int k = 0; k < want.length; k++) {
      due("name " + k, x.tries(0, k), want[k]);
    }
    long[] second = {9, 12, 3, 117, 1, 44, 321, 22, 33, 4, 16, 1};
    for (int k = 0; k < second.length; k++) {
      due("name " + k + " of the second", x.tries(1, k), second[k]);
    }
    x.near(0, 4);
    due("both are near", x.tries(0, 4), 2);
    x.near(0, 3);
    due("a LAND near two is one", x.tries(0, 4), 2);
    x.hold(4, 0);
    due("near what it would give alone", x.tries(0, 4), 0);
    due("mine", x.tries(0, 5), 4);
    x.days(3);
    due("day", x.tries(0, 9), 7);
    due("left", x.tries(0, 10), 3);
    x.days(5);
    due("left below 0", x.tries(0, 10), -2);
  }

  private static void landsAndNear() {
    part = "5 land, 6 near";
    PowersHouse x = new PowersHouse();
    due("0 SOULS", x.land(0), NONE);
    due("-1 SOULS", x.land(-1), NONE);
    due("10000 SOULS", x.land(10000), NONE);
    due("1", x.land(1), 0);
    due("9999", x.land(9999), 1);
    due("souls", x.look(1, 0), 9999);
    no("near itself", x.near(0, 0));
    no("no such", x.near(0, 2));
    no("no such", x.near(2, 0));
    no("no such", x.near(-1, 0));
    yes("near", x.near(0, 1));
    no("near already", x.near(0, 1));
    no("near already", x.near(1, 0));
    for (int k = 2; k < 12; k++) {
      due("land " + k, x.land(5), k);
    }
    due("a 13th", x.land(5), NONE);
    yes("near", x.near(11, 0));
    no("near already", x.near(0, 11));
    no("no such", x.near(12, 0));
  }

  private static void states() {
    part = "7 state";
    PowersHouse x = new PowersHouse();
    due("RANK -1", x.state(-1, 0), NONE);
    due("RANK 100", x.state(100, 0), NONE);
    due("HOME -1", x.state(0, -1), NONE);
    due("HOME 10", x.state(0, 10), NONE);
    due("99, 9", x.state(99, 9), 0);
    for (int k = 1; k < 6; k++) {
      due("state " + k, x.state(0, 0), k);
    }
    due("a 7th", x.state(0, 0), NONE);
    due("PRESENT", x.count(2), 63);
    x.leave(3);
    due("one left, but there are 6", x.state(0, 0), NONE);
  }

  private static void holdAndWay() {
    part = "8 hold, 36 way";
    PowersHouse x = house(2, 2);
    due("no HOLDER at first", x.look(0, 1), NONE);
    no("it has none", x.hold(0, NONE));
    due("no WAY yet", x.way(0, 0, 0), -2);
    no("no such STATE", x.hold(0, 2));
    no("no such STATE", x.hold(0, -2));
    no("no such LAND", x.hold(2, 0));
    no("no such LAND", x.hold(-1, 0));
    yes("hold", x.hold(0, 1));
    no("it has it", x.hold(0, 1));
    x.days(7);
    yes("none", x.hold(0, NONE));
    due("HOLDER", x.look(0, 1), NONE);
    no("none already", x.hold(0, NONE));
    x.leave(0);
    no("it has left", x.hold(0, 0));
    int[][] want = {{1, 0, NONE}, {NONE, 7, NONE}};
    for (int k = 0; k < 2; k++) {
      for (int what = 0; what < 3; what++) {
        due("way " + k + " " + what, x.way(0, k, what), want[k][what]);
      }
    }
    due("beyond", x.way(0, 2, 0), -2);
    due("before", x.way(0, -1, 0), -2);
    due("no such what", x.way(0, 0, 3), -2);
    due("no such what", x.way(0, 0, -1), -2);
    due("no such LAND", x.way(2, 0, 0), -2);
    due("no such LAND", x.way(-1, 0, 0), -2);
    due("another LAND", x.way(1, 0, 0), -2);
  }

  private static void wayBeyondTwenty() {
    part = "8 hold, 36 way of 20 and more";
    PowersHouse x = house(1, 2);
    told(x, 0, "take 1;");
    told(x, 1, "take 1;");
    for (int k = 0; k < 20; k++) {
      yes("hold " + k, x.hold(0, k % 2));
    }
    no("a 21st", x.hold(0, 0));
    no("a 21st: none", x.hold(0, NONE));
    for (int k = 0; k < 60; k++) {
      int from = k % 2 == 0 ? 1 : 0;
      due("offer " + k, x.offer(from, 1 - from, 1, 0, 300, NONE), k);
      x.days(1);
      due("bound " + k, x.paper(k, 2), 5);
      no("the WAY has more than 20", x.hold(0, from));
    }
    due("the last HOLDER", x.way(0, 79, 0), 1);
    due("the last DAY", x.way(0, 79, 1), 60);
    due("the last PAPER", x.way(0, 79, 2), 59);
    due("an OFFER in the middle", x.way(0, 20, 2), 0);
    due("beyond", x.way(0, 80, 0), -2);
  }

  private static void claims() {
    part = "9 claim";
    PowersHouse x = house(2, 5);
    no("no such LAND", x.claim(2, 0, true));
    no("no such STATE", x.claim(0, 5, true));
    no("no such STATE", x.claim(0, -1, true));
    no("it doesn't", x.claim(0, 0, false));
    yes("claim", x.claim(0, 0, true));
    no("it does", x.claim(0, 0, true));
    yes("second", x.claim(0, 2, true));
    yes("third", x.claim(0, 4, true));
    no("three do", x.claim(0, 1, true));
    due("CLAIMS", x.look(0, 2), 21);
    yes("no more", x.claim(0, 2, false));
    due("CLAIMS", x.look(0, 2), 17);
    x.leave(1);
    yes("of a STATE that left", x.claim(0, 1, true));
    no("three do", x.claim(0, 3, true));
    due("CLAIMS", x.look(0, 2), 19);
    yes("another LAND", x.claim(1, 3, true));
  }

  private static void worthBoundHas() {
    part = "10 worth, 11 bound, 21 has";
    PowersHouse x = house(3, 2);
    no("-1", x.worth(0, 0, -1));
    no("100", x.worth(0, 0, 100));
    no("no such STATE", x.worth(2, 0, 1));
    no("no such LAND", x.worth(0, 3, 1));
    no("no such LAND", x.worth(0, -1, 1));
    yes("99", x.worth(0, 0, 99));
    yes("0", x.worth(0, 2, 0));
    yes("the same again", x.worth(0, 2, 0));
    yes("7", x.worth(0, 1, 7));
    yes("another STATE", x.worth(1, 0, 50));
    due("has nothing", x.has(0), 0);
    x.hold(0, 0);
    x.hold(1, 0);
    x.hold(2, 1);
    due("has", x.has(0), 106);
    due("has", x.has(1), 0);
    due("no such STATE", x.has(2), NONE);
    due("no such STATE", x.has(-1), NONE);
    x.leave(0);
    due("a STATE that left has it still", x.has(0), 106);
    yes("worth of a STATE that left", x.worth(0, 1, 8));
    due("has", x.has(0), 107);
    no("BOUND -1", x.bound(1, -1));
    no("BOUND 1000", x.bound(1, 1000));
    no("no such STATE", x.bound(2, 5));
    no("no such STATE", x.bound(-1, 5));
    yes("BOUND 999", x.bound(1, 999));
    due("it counts", x.core(), 2);
    yes("BOUND 0", x.bound(1, 0));
    due("it counts", x.core(), 0);
    yes("BOUND of a STATE that left", x.bound(0, 5));
  }

  private static void offerRefusals() {
    part = "12 offer";
    PowersHouse x = house(3, 4);
    x.days(5);
    x.leave(3);
    due("from no STATE", x.offer(4, 1, 1, 2, 9, NONE), NONE);
    due("to no STATE", x.offer(0, -1, 1, 2, 9, NONE), NONE);
    due("to itself", x.offer(0, 0, 1, 2, 9, NONE), NONE);
    due("from one that left", x.offer(3, 0, 1, 2, 9, NONE), NONE);
    due("to one that left", x.offer(0, 3, 1, 2, 9, NONE), NONE);
    due("both none", x.offer(0, 1, 0, 0, 9, NONE), NONE);
    due("one in both", x.offer(0, 1, 3, 2, 9, NONE), NONE);
    due("no such LAND", x.offer(0, 1, 8, 2, 9, NONE), NONE);
    due("no such LAND", x.offer(0, 1, 1, 10, 9, NONE), NONE);
    due("no such LANDS", x.offer(0, 1, -8, 0, 9, NONE), NONE);
    due("no such LANDS", x.offer(0, 1, 0, Integer.MIN_VALUE, 9, NONE), NONE);
    due("before TODAY", x.offer(0, 1, 1, 2, 4, NONE), NONE);
    due("behind 300", x.offer(0, 1, 1, 2, 301, NONE), NONE);
    due("linked to none", x.offer(0, 1, 1, 2, 9, 0), NONE);
    due("linked to none", x.offer(0, 1, 1, 2, 9, -2), NONE);
    due("till TODAY", x.offer(0, 1, 1, 2, 5, NONE), 0);
    due("till 300", x.offer(0, 1, 1, 2, 300, NONE), 1);
    due("gives alone", x.offer(0, 1, 7, 0, 9, NONE), 2);
    due("takes alone", x.offer(0, 1, 0, 7, 9, NONE), 3);
    due("a NOTE", x.note(0, 1, 1), 4);
    due("linked to a NOTE", x.offer(0, 1, 1, 2, 9, 4), NONE);
    due("linked to itself", x.offer(0, 1, 1, 2, 9, 5), NONE);
    due("linked", x.offer(0, 1, 1, 2, 9, 3), 5);
    int[] want = {0, 5, 0, NONE, 0, 1, NONE};
    for (int what = 0; what < 7; what++) {
      due("paper(0, " + what + ")", x.paper(0, what), want[what]);
    }
    due("no such what", x.paper(0, 7), -2);
    due("no such what", x.paper(0, -1), -2);
    due("no such PAPER", x.paper(6, 0), -2);
    due("no such PAPER", x.paper(-1, 0), -2);
    for (int k = 6; k < 60; k++) {
      due("offer", x.offer(0, 1, 1, 0, 9, NONE), k);
    }
    due("a 61st", x.offer(0, 1, 1, 0, 9, NONE), NONE);
    due("a 61st", x.note(0, 1, 1), NONE);
    due("60", x.count(3), 60);
    due("on DAY 300", x.days(50), 55);
  }

  private static void notesAndSpies() {
    part = "13 note, 14 spy, 19 known, 20 heard";
    PowersHouse x = house(0, 5);
    x.leave(4);
    due("WORD 0", x.note(0, 1, 0), NONE);
    due("WORD 100", x.note(0, 1, 100), NONE);
    due("no such STATE", x.note(5, 0, 1), NONE);
    due("no such STATE", x.note(0, -1, 1), NONE);
    due("from one that left", x.note(4, 0, 1), NONE);
    due("to one that left", x.note(0, 4, 1), NONE);
    x.days(3);
    no("no such STATE", x.spy(5, 0, 3, 9));
    no("no such STATE", x.spy(0, 5, 3, 9));
    no("on itself", x.spy(1, 1, 3, 9));
    no("before TODAY", x.spy(1, 0, 2, 9));
    no("from behind to", x.spy(1, 0, 5, 4));
    no("behind 300", x.spy(1, 0, 5, 301));
    due("a NOTE home that nobody opens", x.note(0, 0, 7), 0);
    yes("one DAY", x.spy(1, 0, 4, 4));
    yes("of one that left", x.spy(4, 0, 3, 300));
    yes("on another", x.spy(2, 3, 3, 300));
    due("opened by 4 alone", x.note(0, 0, 7), 1);
    due("to another STATE: not opened", x.note(0, 2, 7), 2);
    due("to its sender", x.known(1, 0), 3);
    due("not yet", x.known(1, 4), NONE);
    due("heard", x.heard(4, 3, 7), 0);
    x.days(1);
    due("opened by 1 and 4", x.note(0, 0, 99), 3);
    x.days(1);
    due("by 4 alone", x.note(0, 0, 7), 4);
    due("told before the SPY", x.known(0, 4), NONE);
    due("the DAY behind", x.known(1, 4), 4);
    due("outside of its DAYS", x.known(1, 1), NONE);
    due("both", x.known(2, 2), 3);
    due("both", x.known(2, 0), 3);
    due("no third", x.known(2, 4), NONE);
    due("on its DAY", x.known(3, 1), 5);
    due("on its DAY", x.known(3, 4), 5);
    due("on another", x.known(3, 2), NONE);
    due("behind its DAYS", x.known(4, 1), NONE);
    x.leave(1);
    due("a STATE that left knows it", x.known(3, 1), 5);
    due("no such PAPER", x.known(5, 0), NONE);
    due("no such STATE", x.known(3, 5), NONE);
    due("heard 7", x.heard(0, 5, 7), 4);
    due("heard 7 by DAY 3", x.heard(0, 3, 7), 3);
    due("heard 7 by DAY 2", x.heard(0, 2, 7), 0);
    due("heard by the opener", x.heard(4, 5, 7), 1);
    due("heard by the opener before", x.heard(4, 3, 7), 0);
    due("another WORD", x.heard(4, 5, 99), 1);
    due("no such DAY", x.heard(0, 6, 7), NONE);
    due("no such DAY", x.heard(0, -1, 7), NONE);
    due("no such WORD", x.heard(0, 5, 0), NONE);
    due("no such WORD", x.heard(0, 5, 100), NONE);
    due("no such STATE", x.heard(5, 5, 7), NONE);
    due("kind", x.paper(3, 0), 1);
    due("DAY", x.paper(3, 1), 4);
    for (int what : new int[] {2, 3, 6}) {
      due("what " + what + " of a NOTE", x.paper(3, what), NONE);
    }
    due("from", x.paper(2, 4), 0);
    due("to", x.paper(2, 5), 2);
    for (int k = 3; k < 20; k++) {
      yes("spy " + k, x.spy(2, 3, 300, 300));
    }
    no("a 21st SPY", x.spy(2, 3, 300, 300));
    due("SPIES", x.count(6), 20);
    for (int k = 0; k < 5; k++) {
      x.days(50);
    }
    x.days(45);
    due("on the last DAY", x.note(3, 3, 1), 5);
    due("there is no DAY behind", x.known(5, 2), NONE);
    due("TODAY", x.count(4), 300);
    due("heard", x.heard(2, 300, 1), 0);
  }

  private static void daysAndLapse() {
    part = "15 days";
    PowersHouse x = house(1, 2);
    due("0", x.days(0), NONE);
    due("-1", x.days(-1), NONE);
    due("51", x.days(51), NONE);
    due("much", x.days(Integer.MAX_VALUE), NONE);
    due("nothing happens", x.count(4), 0);
    x.offer(0, 1, 1, 0, 0, NONE);
    x.offer(0, 1, 1, 0, 2, NONE);
    due("1", x.days(1), 1);
    due("its last DAY is behind", x.paper(0, 2), 4);
    due("without ORDERS it stays", x.paper(1, 2), 0);
    due("1", x.days(1), 2);
    due("on its last DAY", x.paper(1, 2), 0);
    due("1", x.days(1), 3);
    due("behind it", x.paper(1, 2), 4);
    due("no line", x.paper(1, 3), NONE);
    due("50", x.days(50), 53);
    for (int k = 0; k < 4; k++) {
      x.days(50);
    }
    due("253", x.count(4), 253);
    due("beyond 300", x.days(48), NONE);
    due("till 300", x.days(47), 300);
    due("beyond 300", x.days(1), NONE);
    due("TODAY", x.count(4), 300);
    due("offer on DAY 300", x.offer(0, 1, 1, 0, 300, NONE), 2);

    part = "15 days: the first line that holds";
    x = house(2, 2);
    x.hold(0, 0);
    x.worth(1, 0, 5);
    told(x, 1, "home 1; take 1/0; refuse gain>5; take day>=2 and gain=5; refuse 1;");
    x.offer(0, 1, 1, 0, 9, NONE);
    x.days(1);
    due("refused by the last line", x.paper(0, 2), 3);
    due("line", x.paper(0, 3), 4);
    x.offer(0, 1, 1, 0, 9, NONE);
    x.days(1);
    due("taken and bound", x.paper(1, 2), 5);
    due("line", x.paper(1, 3), 3);
    due("no answer's DAY", x.paper(1, 6), NONE);
    due("the LAND", x.look(0, 1), 1);
    due("way", x.way(0, 1, 2), 1);
    due("way", x.way(0, 1, 1), 2);
    told(x, 1, "home 1;");
    x.offer(0, 1, 1, 0, 9, NONE);
    x.days(1);
    due("home lines don't answer what isn't ASKED", x.paper(2, 2), 0);
    // PAPERS in order, LANDS move only when all have answered.
    x = house(1, 2);
    x.hold(0, 0);
    x.worth(1, 0, 9);
    told(x, 1, "take mine=0; refuse 1;");
    x.offer(0, 1, 1, 0, 9, NONE);
    x.offer(0, 1, 1, 0, 9, NONE);
    x.days(1);
    due("bound", x.paper(0, 2), 5);
    due("taken, but the LAND was gone", x.paper(1, 2), 6);
    due("line of what is VOID", x.paper(1, 3), 0);
  }

  private static void askingHome() {
    part = "15 days: ask and home";
    PowersHouse x = new PowersHouse();
    x.land(1);
    x.state(1, 0);
    x.state(1, 3);
    x.state(1, 0);
    x.hold(0, 0);
    told(x, 1, "ask 1; take 1; home day=9; home day=7;");
    told(x, 2, "home 0; ask 1; home 1;");
    x.offer(0, 1, 1, 0, 9, NONE);
    due("day 1", x.days(1), 1);
    due("ASKED", x.paper(0, 2), 1);
    due("line", x.paper(0, 3), 0);
    due("HOME and HOME later", x.paper(0, 6), 7);
    x.days(5);
    due("still ASKED", x.paper(0, 2), 1);
    x.days(1);
    due("taken and bound", x.paper(0, 2), 5);
    due("line of home", x.paper(0, 3), 3);
    due("DAY of the answer", x.paper(0, 6), 7);
    due("HOLDER", x.look(0, 1), 1);
    x.offer(0, 1, 1, 0, 20, NONE);
    x.offer(0, 1, 1, 0, 10, NONE);
    x.days(1);
    due("answer", x.paper(1, 6), 14);
    x.days(3);
    due("ASKED and LAPSED", x.paper(2, 2), 4);
    due("line of ask stays", x.paper(2, 3), 0);
    due("ASKED", x.paper(1, 2), 1);
    told(x, 1, "take 1;");
    x.days(2);
    due("new ORDERS don't ask again", x.paper(1, 2), 1);
    x.days(1);
    due("no home line holds", x.paper(1, 2), 3);
    // It was ASKED by line 0, and no line took or refused it.
    due("the line by which it was ASKED", x.paper(1, 3), 0);
    due("DAY of the answer", x.paper(1, 6), 14);
    x.hold(0, 0);
    x.offer(0, 2, 1, 0, 20, NONE);
    x.days(1);
    due("HOME 0: at once", x.paper(3, 2), 5);
    due("line of home", x.paper(3, 3), 2);
    due("the answer's DAY", x.paper(3, 6), 15);
    told(x, 2, "ask 1; home 0; home 1/0;");
    x.offer(0, 2, 1, 0, 20, NONE);
    x.days(1);
    due("HOME 0: refused at once", x.paper(4, 2), 3);
    due("line of ask", x.paper(4, 3), 0);
  }

  private static void takers(PowersHouse x, int states) {
    for (int s = 0; s < states; s++) {
      told(x, s, "refuse souls=30; take day>=3 or souls<>40; ");
    }
  }

  private static void chainsBindOrVoid() {
    part = "15 days: chains";
    // LAND 2 (SOULS 30) is refused, LAND 3 (SOULS 40) is taken from DAY 3 on.
    PowersHouse x = house(6, 3);
    takers(x, 3);
    for (int l = 0; l < 6; l++) {
      x.hold(l, l % 3);
    }
    x.offer(0, 1, 1, 2, 9, NONE);
    x.offer(0, 2, 8, 0, 9, 0);
    x.days(2);
    due("TAKEN waits", x.paper(0, 2), 2);
    due("for the PENDING one", x.paper(1, 2), 0);
    due("nothing moves", x.look(0, 1), 0);
    x.days(1);
    due("all at once", x.paper(0, 2), 5);
    due("all at once", x.paper(1, 2), 5);
    due("given", x.look(0, 1), 1);
    due("taken", x.look(1, 1), 0);
    due("given", x.look(3, 1), 2);
    due("on DAY 3", x.way(0, 1, 1), 3);
    due("by PAPER 1", x.way(3, 1, 2), 1);

    part = "15 days: a chain with a refused one";
    x = house(6, 3);
    takers(x, 3);
    for (int l = 0; l < 6; l++) {
      x.hold(l, l % 3);
    }
    x.offer(0, 1, 8, 0, 9, NONE);
    x.offer(1, 0, 2, 0, 9, 0);
    x.offer(2, 1, 4, 0, 9, 1);
    x.offer(1, 2, 16, 0, 9, NONE);
    x.days(1);
    due("PENDING, void", x.paper(0, 2), 6);
    due("TAKEN, void", x.paper(1, 2), 6);
    due("REFUSED stays", x.paper(2, 2), 3);
    due("not of the CHAIN", x.paper(3, 2), 5);
    due("nothing moves", x.look(1, 1), 1);

    part = "15 days: what two give, or who doesn't hold it";
    x = house(4, 3);
    takers(x, 3);
    x.hold(0, 0);
    x.hold(1, 1);
    x.offer(0, 1, 1, 0, 9, NONE);
    x.offer(0, 2, 1, 0, 9, 0);
    x.offer(2, 1, 0, 1, 9, NONE);
    x.offer(1, 2, 2, 0, 9, NONE);
    x.days(1);
    due("a LAND by two", x.paper(0, 2), 6);
    due("a LAND by two", x.paper(1, 2), 6);
    due("not held", x.paper(2, 2), 6);
    due("held", x.paper(3, 2), 5);
    due("still there", x.look(0, 1), 0);
    // One gives what it only gets by the same CHAIN.
    x.offer(0, 1, 1, 0, 9, NONE);
    x.offer(1, 2, 1, 0, 9, 4);
    x.days(1);
    due("not held now", x.paper(4, 2), 6);
    due("not held now", x.paper(5, 2), 6);
    // CHAINS in order: the first one's LANDS have new HOLDERS for the second.
    x.offer(0, 1, 1, 0, 9, NONE);
    x.offer(1, 2, 1, 0, 9, NONE);
    x.offer(0, 2, 1, 0, 9, NONE);
    x.days(1);
    due("first", x.paper(6, 2), 5);
    due("then the next", x.paper(7, 2), 5);
    due("no more", x.paper(8, 2), 6);
    due("HOLDER", x.look(0, 1), 2);
    due("way", x.way(0, 1, 2), 6);
    due("way", x.way(0, 2, 2), 7);
    due("length", x.way(0, 3, 2), -2);
  }

  private static void chainsOfLaterLinks() {
    part = "15 days: links to what ended";
    PowersHouse x = house(4, 3);
    takers(x, 3);
    for (int l = 0; l < 4; l++) {
      x.hold(l, 0);
    }
    x.offer(0, 1, 1, 0, 9, NONE);
    x.days(1);
    due("bound", x.paper(0, 2), 5);
    x.offer(0, 1, 2, 0, 9, 0);
    x.offer(0, 2, 8, 0, 9, 0);
    x.days(1);
    due("waits for the one that hangs on the same", x.paper(1, 2), 2);
    x.days(1);
    due("linked to a BOUND one", x.paper(1, 2), 5);
    due("linked to a BOUND one", x.paper(2, 2), 5);
    due("BOUND stays", x.paper(0, 2), 5);
    x.offer(0, 1, 4, 0, 9, NONE);
    x.days(1);
    due("refused", x.paper(3, 2), 3);
    x.offer(1, 0, 1, 0, 9, 3);
    x.days(1);
    due("linked to a REFUSED one", x.paper(4, 2), 6);
    x.offer(1, 0, 1, 0, 9, 4);
    x.offer(1, 0, 4, 0, 9, 5);
    x.days(1);
    due("linked to a VOID one", x.paper(5, 2), 6);
    due("refused", x.paper(6, 2), 3);
    // A REFUSED one alone doesn't end what is PENDING; that needs one that is TAKEN.
    told(x, 2, "take 0;");
    x.offer(0, 2, 2, 0, 9, 3);
    x.days(1);
    due("PENDING", x.paper(7, 2), 0);
    x.offer(0, 1, 2, 0, 9, 7);
    x.days(1);
    due("TAKEN", x.paper(8, 2), 6);
    due("and the PENDING one with it", x.paper(7, 2), 6);
  }

  private static void whyAndTries() {
    part = "17 why, 18 tries";
    PowersHouse x = house(1, 2);
    x.hold(0, 0);
    due("why: none", x.why(0), NONE);
    due("tries: none", x.tries(0, 0), MIN);
    x.offer(0, 1, 1, 0, 9, NONE);
    due("no ORDERS", x.why(0), NONE);
    told(x, 1, "home 1; take 1%0; refuse 0; ask day<3; take day<5;");
    due("ask", x.why(0), 3);
    due("home's VALUE", x.tries(0, 0), 1);
    due("ERROR", x.tries(0, 1), MIN);
    due("0", x.tries(0, 2), 0);
    due("beyond", x.tries(0, 5), MIN);
    due("before", x.tries(0, -1), MIN);
    due("no such PAPER", x.tries(1, 0), MIN);
    x.note(0, 1, 5);
    due("of a NOTE", x.tries(1, 0), MIN);
    due("of a NOTE", x.why(1), NONE);
    due("nothing is done", x.paper(0, 2), 0);
    x.days(1);
    due("asked and taken", x.paper(0, 2), 5);
    x.days(2);
    due("of a BOUND one, as things are now", x.why(0), 4);
    x.days(2);
    due("none would", x.why(0), NONE);
    due("no such", x.why(-1), NONE);
  }

  /** LANDS 0, 1, 2 are held by 0, 1, 2 and claimed by 0 and 1, 1 and 2, 2 and 0. */
  private static PowersHouse triangle() {
    PowersHouse x = house(4, 3);
    for (int k = 0; k < 3; k++) {
      x.hold(k, k);
      x.claim(k, k, true);
      x.claim(k, (k + 1) % 3, true);
      for (int l = 0; l < 3; l++) {
        x.worth(k, l, 10);
      }
    }
    return x;
  }

  private static void settlements() {
    part = "22 settle, 26 judge";
    PowersHouse x = triangle();
    due("DISPUTED", x.settle(0), 3);
    due("all", x.settle(1), 8);
    due("FAIR", x.settle(2), 8);
    due("STABLE", x.settle(3), 2);
    due("no such what", x.settle(4), NONE);
    due("no such what", x.settle(-1), NONE);
    due("as now", x.judge(2 << 6 | 1 << 3), 3);
    due("all one on", x.judge(0 << 6 | 2 << 3 | 1), 3);
    due("one has two", x.judge(0 << 6 | 1 << 3), 2);
    due("no claim", x.judge(1 << 6 | 1 << 3), 0);
    due("no such STATE", x.judge(7), 0);
    due("bits beyond", x.judge(-1 << 9 | 2 << 6 | 1 << 3), 3);
    yes("bound", x.bound(1, 10));
    due("FAIR ones", x.settle(2), 6);
    due("not FAIR", x.judge(2 << 6 | 2 << 3), 1);
    yes("bound", x.bound(1, 20));
    due("FAIR ones", x.settle(2), 2);
    due("STABLE ones", x.settle(3), 0);
    due("best", x.best(12), NONE);
    x.claim(0, 2, true);
    due("three CLAIMS", x.settle(1), 12);
    x.leave(2);
    due("CLAIMS of PRESENT ones", x.settle(0), 1);
    due("all", x.settle(1), 2);
    // LAND 2 is no more DISPUTED and stays with the STATE that left.
    due("best of LAND 2", x.judge(1), 2);
    x.bound(1, 0);
    due("LAND 2", x.best(2), 2);
    due("LAND 3: nobody", x.best(3), NONE);
    due("LAND 0", x.best(0), 0);
    due("sum of PRESENT ones", x.best(13), 20);
    due("no such LAND", x.best(4), NONE);
    due("no such LAND", x.best(11), NONE);
    due("no such what", x.best(14), NONE);
    due("no such what", x.best(-1), NONE);
    x.leave(0);
    x.leave(1);
    due("nobody is PRESENT: one SETTLEMENT", x.settle(1), 1);
    due("STABLE", x.settle(3), 1);
    due("but no BEST", x.best(12), NONE);
    due("but no BEST", x.best(0), NONE);
    due("core", x.core(), 0);
  }

  private static void stability() {
    part = "22 settle: STABLE";
    // Two STATES hold what the other one likes better; LAND 2 is DISPUTED.
    PowersHouse x = house(3, 2);
    x.hold(0, 0);
    x.hold(1, 1);
    x.worth(0, 0, 5);
    x.worth(0, 1, 7);
    x.worth(1, 0, 7);
    x.worth(1, 1, 5);
    x.claim(2, 0, true);
    x.claim(2, 1, true);
    due("both would rather exchange", x.settle(3), 0);
    due("FAIR", x.settle(2), 2);
    due("judge", x.judge(0), 2);
    x.worth(0, 2, 2);
    due("7 isn't more than 7", x.judge(0), 3);
    due("STABLE", x.settle(3), 1);
    x.worth(0, 2, 1);
    due("7 is more than 6, 7 more than 5", x.judge(0), 2);
    x.worth(0, 1, 5);
    due("7 and 5 aren't more than 6 and 5", x.judge(0), 3);
    x.worth(0, 1, 7);
    x.worth(0, 2, 2);
    x.worth(1, 2, 2);
    due("both STABLE", x.settle(3), 2);
    due("first by STATES", x.best(2), 0);
    due("least gain", x.best(12), 5);
    due("sum", x.best(13), 12);
    x.hold(2, 0);
    due("0 has 7 now", x.judge(1), 2);
    due("both would rather share all three", x.judge(0), 2);

    part = "22 settle: two could share all that they hold";
    x = house(4, 3);
    for (int l = 0; l < 3; l++) {
      x.hold(l, l < 2 ? 0 : 1);
    }
    int[][] worth = {{4, 3, 6, 1}, {6, 6, 5, 4}, {0, 0, 0, 0}};
    for (int s = 0; s < 3; s++) {
      for (int l = 0; l < 4; l++) {
        x.worth(s, l, worth[s][l]);
      }
    }
    x.claim(3, 0, true);
    x.claim(3, 1, true);
    x.claim(3, 2, true);
    // 0 has 7 and 1 has 5; 0 could have LANDS 2 and 1 (9), 1 LAND 0 (6).
    due("0 gets it: 8 and 5, 9 and 6 are more", x.judge(0), 2);
    due("1 gets it: 7 and 9", x.judge(1), 3);
    due("2 gets it", x.judge(2), 2);
    x.leave(0);
    due("0 is gone", x.judge(2), 3);
  }

  private static void bestOfSeveral() {
    part = "23 best";
    PowersHouse x = house(3, 3);
    for (int l = 0; l < 2; l++) {
      x.claim(l, 1, true);
      x.claim(l, 2, true);
    }
    x.claim(2, 0, true);
    x.hold(2, 0);
    x.worth(0, 2, 50);
    for (int s = 1; s < 3; s++) {
      x.worth(s, 0, 9);
      x.worth(s, 1, 9);
    }
    due("least gain", x.best(12), 9);
    due("first by STATES", x.best(0), 1);
    due("then", x.best(1), 2);
    due("LAND 2 has one CLAIM", x.best(2), 0);
    due("sum", x.best(13), 68);
    x.worth(2, 0, 10);
    due("greater sum of GETS", x.best(0), 2);
    due("sum", x.best(13), 69);
    due("least gain", x.best(12), 9);
    x.bound(1, 5);
    due("least gain is less BOUND", x.best(12), 4);
    x.worth(1, 0, 30);
    due("greater least gain", x.best(0), 1);
    due("gain", x.best(12), 9);
    x.bound(0, 48);
    due("gain of 0", x.best(12), 2);
    due("sum is greatest then", x.best(0), 1);
    due("sum", x.best(13), 89);
    due("sum: LAND 1", x.best(1), 2);
    x.worth(1, 1, 12);
    due("least gain comes first", x.best(1), 2);
    x.bound(0, 50);
    due("of one least gain the greater sum", x.best(1), 1);
    due("sum", x.best(13), 92);
    x.bound(0, 51);
    due("not FAIR", x.best(0), NONE);
  }

  private static void spent() {
    part = "22 to 26 spent";
    PowersHouse x = house(12, 6);
    for (int l = 0; l < 9; l++) {
      x.claim(l, 0, true);
      x.claim(l, 1, true);
      x.claim(l, l % 2 == 0 ? 2 : 3, true);
    }
    due("DISPUTED", x.settle(0), 9);
    for (int what = 1; what < 4; what++) {
      due("settle " + what, x.settle(what), NONE);
    }
    due("best", x.best(12), NONE);
    due("best", x.best(0), NONE);
    due("without", x.without(5, 0), NONE);
    due("core", x.core(), NONE);
    due("judge", x.judge(0), NONE);
    x.bound(5, 1);
    due("core", x.core(), NONE);
    x.bound(5, 0);
    x.claim(8, 1, false);
    x.claim(8, 2, false);
    due("all", x.settle(1), 6561);
    due("STABLE", x.settle(3), 6561);
    due("best", x.best(7), 0);
    due("core", x.core(), 0);
    due("without 0", x.without(0, 0), 1);
    due("least gain", x.best(12), 0);
    due("24 bits", x.judge(1 << 21 | 3 << 9), 3);
    due("24 bits", x.judge(2 << 21), 0);
  }

  private static void cores() {
    part = "25 core";
    PowersHouse x = house(2, 6);
    x.claim(0, 4, true);
    x.claim(0, 5, true);
    x.claim(0, 1, true);
    x.worth(4, 0, 10);
    x.worth(5, 0, 10);
    x.worth(1, 0, 10);
    due("FAIR", x.core(), 0);
    x.bound(4, 10);
    due("FAIR", x.core(), 0);
    x.bound(5, 10);
    due("two can't", x.core(), 48);
    x.bound(1, 10);
    due("of several the least bits", x.core(), 18);
    x.bound(5, 11);
    due("the fewest", x.core(), 32);
    x.leave(5);
    due("PRESENT ones", x.core(), 18);
    x.hold(1, 4);
    x.worth(4, 1, 10);
    due("4 has it elsewhere", x.core(), 0);
    x.bound(3, 1);
    due("one without any CLAIM", x.core(), 8);
    x.bound(2, 1);
    due("the least bits", x.core(), 4);
    // Each two can be kept, all three can't.
    x = triangle();
    for (int s = 0; s < 3; s++) {
      x.bound(s, 10);
    }
    x.claim(0, 2, true);
    x.claim(1, 0, true);
    x.bound(0, 20);
    due("0 and 1 and 2: 20, 10 and 10 of 30", x.core(), 7);
    x.bound(2, 20);
    due("0 and 2", x.core(), 5);
  }

  private static void withoutOne() {
    part = "24 without";
    PowersHouse x = triangle();
    due("best", x.best(0), 0);
    due("no such STATE", x.without(3, 0), NONE);
    due("no such STATE", x.without(-1, 0), NONE);
    due("LAND 0 has one CLAIM left", x.without(1, 0), 0);
    due("LAND 1 stays with 1", x.without(1, 1), 1);
    due("gain", x.without(1, 12), 10);
    due("sum of the others", x.without(1, 13), 20);
    due("nobody", x.without(1, 3), NONE);
    due("no such LAND", x.without(1, 4), NONE);
    due("no such what", x.without(1, 14), NONE);
    x.bound(1, 99);
    due("no BEST with it", x.best(12), NONE);
    due("but without it", x.without(1, 12), 10);
    due("nothing changes", x.count(2), 7);
    due("nothing changes", x.best(12), NONE);
    due("not without another", x.without(0, 12), NONE);
    x.leave(1);
    due("it has left", x.without(1, 0), NONE);
    due("without 0", x.without(0, 12), 10);
    x.leave(2);
    due("without the last one", x.without(0, 12), NONE);
    due("with it", x.best(12), 10);
  }

  private static void swaps() {
    part = "27 swap";
    PowersHouse x = house(8, 4);
    for (int l = 0; l < 8; l++) {
      x.hold(l, l / 2);
    }
    for (int s = 0; s < 4; s++) {
      for (int l = 0; l < 8; l++) {
        x.worth(s, l, l / 2 == s ? 10 : 0);
      }
    }
    due("none", x.swap(0), 0);
    due("none", x.swap(1), NONE);
    due("none", x.swap(5), NONE);
    // 0 likes what 1 has, 1 what 2 has, 2 what 3 has, 3 what 0 has (its second LAND each).
    for (int s = 0; s < 4; s++) {
      x.worth(s, ((s + 1) % 4) * 2 + 1, 11);
    }
    int[] four = {4, 0, 3, 2, 1, 1, 7, 5, 3};
    for (int what = 0; what < 9; what++) {
      due("ring of four " + what, x.swap(what), four[what]);
    }
    due("no such what", x.swap(9), NONE);
    due("no such what", x.swap(-1), NONE);
    x.worth(2, 0, 10);
    due("10 isn't more than 10", x.swap(0), 4);
    x.worth(2, 4, 9);
    int[] three = {3, 0, 2, 1, NONE, 0, 4, 3, NONE};
    x.worth(1, 4, 11);
    for (int what = 0; what < 9; what++) {
      // 3 isn't needed: 0 gives LAND 0 to 2, which gives LAND 4 to 1.
      due("ring of three " + what, x.swap(what), three[what]);
    }
    x.worth(3, 5, 99);
    int[] two = {2, 2, 3, NONE, NONE, 5, 7, NONE, NONE};
    for (int what = 0; what < 9; what++) {
      due("ring of two " + what, x.swap(what), two[what]);
    }
    x.worth(1, 0, 99);
    x.worth(0, 2, 99);
    int[] first = {2, 0, 1, NONE, NONE, 0, 2, NONE, NONE};
    for (int what = 0; what < 9; what++) {
      due("first by STATES, then by LANDS " + what, x.swap(what), first[what]);
    }
    x.leave(1);
    due("PRESENT ones", x.swap(1), 2);
    x.leave(3);
    due("PRESENT ones", x.swap(0), 0);
  }

  private static void write(PowersHouse x, int article, int state, int... words) {
    x.draft(article, state, 0);
    for (int w : words) {
      x.draft(article, state, w);
    }
  }

  private static void drafts() {
    part = "28 article, 29 draft, 32 distance";
    PowersHouse x = house(0, 3);
    due("no ARTICLE", x.draft(0, 0, 1), NONE);
    for (int k = 0; k < 8; k++) {
      due("article", x.article(), k);
    }
    due("a 9th", x.article(), NONE);
    due("no such ARTICLE", x.draft(8, 0, 1), NONE);
    due("no such ARTICLE", x.draft(-1, 0, 1), NONE);
    due("no such STATE", x.draft(0, 3, 1), NONE);
    due("no such STATE", x.draft(0, -1, 0), NONE);
    due("WORD -1", x.draft(0, 0, -1), NONE);
    due("WORD 100", x.draft(0, 0, 100), NONE);
    due("none is gone", x.draft(0, 0, 0), 0);
    for (int k = 1; k <= 8; k++) {
      due("word " + k, x.draft(0, 0, 90 + k), k);
    }
    due("it has 8", x.draft(0, 0, 1), NONE);
    due("no DRAFT of 1", x.distance(0, 0, 1), NONE);
    due("no DRAFT of 1", x.distance(0, 1, 0), NONE);
    due("itself", x.distance(0, 0, 0), 0);
    due("gone", x.draft(0, 0, 0), 0);
    due("no DRAFT", x.distance(0, 0, 0), NONE);
    due("anew", x.draft(0, 0, 99), 1);
    write(x, 0, 0, 1, 2, 3, 4);
    write(x, 0, 1, 2, 3, 4, 5);
    due("one out, one in", x.distance(0, 0, 1), 2);
    due("the other way", x.distance(0, 1, 0), 2);
    write(x, 0, 1, 1, 9, 3, 4);
    due("one for another", x.distance(0, 0, 1), 1);
    write(x, 0, 1, 9);
    due("none alike", x.distance(0, 0, 1), 4);
    write(x, 0, 1, 4, 3, 2, 1);
    due("the other way round", x.distance(0, 0, 1), 4);
    write(x, 0, 1, 1, 1, 2, 2, 3, 3, 4, 4);
    due("put in", x.distance(0, 0, 1), 4);
    write(x, 0, 0, 1, 2, 3, 4, 5, 6, 7, 8);
    write(x, 0, 1, 8, 1, 2, 3, 4, 5, 6, 7);
    due("eight", x.distance(0, 0, 1), 2);
    due("no such ARTICLE", x.distance(8, 0, 1), NONE);
    due("no such STATE", x.distance(0, 0, 3), NONE);
    due("no such STATE", x.distance(0, -1, 0), NONE);
    due("of another ARTICLE", x.distance(1, 0, 1), NONE);
    x.leave(1);
    due("left: no more words", x.draft(0, 1, 1), NONE);
    due("left: not gone", x.draft(0, 1, 0), NONE);
    due("left: the DRAFT is there", x.distance(0, 0, 1), 2);
  }

  private static void bases() {
    part = "33 laid: BASE";
    PowersHouse x = new PowersHouse();
    x.state(5, 0);
    x.state(3, 0);
    x.state(3, 0);
    x.state(9, 0);
    x.article();
    due("none", x.laid(0, 0), NONE);
    due("0 WORDS", x.laid(0, 1), 0);
    due("OPEN", x.laid(0, 2), 1);
    due("no such what", x.laid(0, 4), NONE);
    due("no such what", x.laid(0, -1), NONE);
    due("no such ARTICLE", x.laid(1, 0), NONE);
    due("no such ARTICLE", x.laid(-1, 0), NONE);
    write(x, 0, 0, 1, 2);
    due("the only one", x.laid(0, 0), 0);
    due("its WORDS", x.laid(0, 1), 2);
    write(x, 0, 2, 1, 3);
    due("the lesser RANK", x.laid(0, 0), 2);
    write(x, 0, 1, 4, 2);
    // 0 is at 1 from each, 1 and 2 are at 2 from each other.
    due("the least sum", x.laid(0, 0), 0);
    write(x, 0, 0, 4, 3);
    due("the least sum", x.laid(0, 0), 0);
    write(x, 0, 0, 7, 8, 9);
    // 3 to each other, 1 and 2 at 2: they tie, and their RANK too.
    due("the lesser number", x.laid(0, 0), 1);
    x.leave(1);
    due("of PRESENT STATES", x.laid(0, 0), 2);
    x.leave(2);
    due("of PRESENT STATES", x.laid(0, 0), 0);
    due("its WORDS", x.laid(0, 1), 3);
    x.leave(0);
    due("none is PRESENT", x.laid(0, 0), NONE);
    due("none is PRESENT", x.laid(0, 1), 0);
    due("none is PRESENT", x.laid(0, 2), 1);
    due("none is PRESENT", x.word(0, 0, 0), NONE);
  }

  private static void heldWords() {
    part = "34 word";
    PowersHouse x = house(0, 5);
    x.article();
    due("no BASE", x.word(0, 0, 0), NONE);
    write(x, 0, 0, 1, 2, 3);
    due("the WORD", x.word(0, 2, 0), 3);
    due("HELD by its own", x.word(0, 2, 1), 1);
    due("AGREED", x.word(0, 2, 2), 2);
    due("beyond", x.word(0, 3, 0), NONE);
    due("before", x.word(0, -1, 0), NONE);
    due("no such what", x.word(0, 0, 3), NONE);
    due("no such what", x.word(0, 0, -1), NONE);
    due("no such ARTICLE", x.word(1, 0, 0), NONE);
    write(x, 0, 1, 1, 9, 3);
    due("by half: OPEN", x.word(0, 1, 2), 0);
    due("by half", x.word(0, 1, 1), 1);
    due("by all", x.word(0, 0, 2), 2);
    write(x, 0, 2, 1, 2, 9);
    due("two of three: SOME", x.word(0, 1, 2), 1);
    due("two of three", x.word(0, 2, 1), 2);
    write(x, 0, 3, 1, 9, 9);
    // The sums: 0: 1+1+2, 1: 1+2+1, 2: 1+2+1, 3: 2+1+1; RANK is the number.
    due("BASE", x.laid(0, 0), 0);
    due("two of four: OPEN", x.word(0, 1, 2), 0);
    due("all four", x.word(0, 0, 1), 4);
    x.leave(3);
    due("PRESENT DRAFTS alone", x.word(0, 1, 2), 1);
    due("PRESENT DRAFTS alone", x.word(0, 0, 1), 3);

    part = "34 word: the way of least DISTANCE";
    x = house(0, 2);
    x.article();
    // From 1 1 to 1: leaving out either would do; from the front, the first is kept.
    write(x, 0, 0, 1, 1);
    write(x, 0, 1, 1);
    due("kept", x.word(0, 0, 1), 2);
    due("left out", x.word(0, 1, 1), 1);
    // From 1 2 to 2 3: changing both costs 2, as leaving out 1 and putting in 3: changes come first.
    write(x, 0, 0, 1, 2);
    write(x, 0, 1, 2, 3);
    due("changed", x.word(0, 0, 1), 1);
    due("changed", x.word(0, 1, 1), 1);
    // From 1 2 3 to 2 3: only leaving out 1 is of least DISTANCE.
    write(x, 0, 0, 1, 2, 3);
    write(x, 0, 1, 2, 3);
    due("left out", x.word(0, 0, 1), 1);
    due("kept", x.word(0, 1, 1), 2);
    due("kept", x.word(0, 2, 1), 2);
    // From 2 3 to 1 2 3: 1 is put in.
    write(x, 0, 0, 2, 3);
    write(x, 0, 1, 1, 2, 3);
    due("kept behind what is put in", x.word(0, 0, 1), 2);
    due("kept behind what is put in", x.word(0, 1, 1), 2);
    // From 1 2 3 to 1 3: changing 2 into 3 would cost one more.
    write(x, 0, 0, 1, 2, 3);
    write(x, 0, 1, 1, 3);
    due("kept", x.word(0, 0, 1), 2);
    due("left out, as 3 can be kept then", x.word(0, 1, 1), 1);
    due("kept", x.word(0, 2, 1), 2);
    // From 1 2 3 to 2 4 3: two changes cost as much as leaving out 1 and putting in 4.
    write(x, 0, 0, 1, 2, 3);
    write(x, 0, 1, 2, 4, 3);
    due("changed first", x.word(0, 0, 1), 1);
    due("changed", x.word(0, 1, 1), 1);
    due("kept", x.word(0, 2, 1), 2);
    // From 1 2 to 2 1: changing both is as short as any and comes first.
    write(x, 0, 0, 1, 2);
    write(x, 0, 1, 2, 1);
    due("changed", x.word(0, 0, 1), 1);
    // 3 is put in before, the last 2 left out.
    write(x, 0, 0, 1, 2, 3, 1, 2);
    write(x, 0, 1, 3, 1, 2, 3, 1);
    due("DISTANCE", x.distance(0, 0, 1), 2);
    due("put in, kept", x.word(0, 0, 1), 2);
    due("kept", x.word(0, 3, 1), 2);
    due("left out at the end", x.word(0, 4, 1), 1);
    // Leaving out 5 6 and keeping 1 2 3 costs 4 with 5 6 put in behind.
    write(x, 0, 0, 5, 6, 1, 2, 3);
    write(x, 0, 1, 1, 2, 3, 5, 6);
    due("DISTANCE", x.distance(0, 0, 1), 4);
    due("left out", x.word(0, 0, 1), 1);
    due("kept", x.word(0, 2, 1), 2);
    // Leaving out the first 1 and putting in one behind is as short as putting in 2 first.
    write(x, 0, 0, 1, 2, 1, 2, 1, 2);
    write(x, 0, 1, 2, 1, 2, 1, 2, 1);
    due("DISTANCE", x.distance(0, 0, 1), 2);
    due("left out", x.word(0, 0, 1), 1);
    for (int k = 1; k < 6; k++) {
      due("kept " + k, x.word(0, k, 1), 2);
    }
    // Leaving out three and putting in three costs as much as six changes.
    write(x, 0, 0, 1, 2, 3, 4, 5, 6);
    write(x, 0, 1, 4, 5, 6, 1, 2, 3);
    due("DISTANCE", x.distance(0, 0, 1), 6);
    due("six changes", x.word(0, 0, 1), 1);
    due("six changes", x.word(0, 3, 1), 1);
  }

  private static void openArticles() {
    part = "30 hang, 33 laid: OPEN";
    PowersHouse x = house(0, 2);
    for (int k = 0; k < 4; k++) {
      x.article();
      write(x, k, 0, k + 1, 50);
      write(x, k, 1, k + 1, 50);
    }
    no("no such ARTICLE", x.hang(4, 0, true));
    no("no such ARTICLE", x.hang(0, 4, true));
    no("no such ARTICLE", x.hang(-1, 0, true));
    no("both the same", x.hang(2, 2, true));
    no("it is so", x.hang(0, 1, false));
    yes("hang", x.hang(0, 1, true));
    no("it is so", x.hang(0, 1, true));
    yes("hang", x.hang(1, 2, true));
    yes("a ring", x.hang(2, 0, true));
    yes("the other way too", x.hang(1, 0, true));
    yes("no more", x.hang(1, 0, false));
    for (int k = 0; k < 4; k++) {
      due("a ring alone isn't OPEN " + k, x.laid(k, 2), 0);
      due("stands " + k, x.laid(k, 3), 2);
    }
    yes("hang", x.hang(2, 3, true));
    due("not OPEN", x.laid(0, 2), 0);
    x.draft(3, 1, 51);
    due("a WORD put in is not of the BASE", x.laid(3, 2), 0);
    write(x, 3, 1, 4, 51);
    for (int k = 0; k < 4; k++) {
      due("an OPEN WORD in 3 comes through " + k, x.laid(k, 2), 1);
      due("stands no more " + k, x.laid(k, 3), 0);
    }
    yes("no more", x.hang(2, 3, false));
    due("3 is", x.laid(3, 2), 1);
    due("2 isn't", x.laid(2, 2), 0);
    x.draft(3, 0, 0);
    due("one DRAFT", x.laid(3, 2), 0);
    x.draft(3, 1, 0);
    due("no DRAFTS", x.laid(3, 2), 1);
    yes("hang", x.hang(1, 3, true));
    due("0 hangs on 1 on 3", x.laid(0, 2), 1);
    due("2 hangs on 0", x.laid(2, 2), 1);
  }

  private static void reserves() {
    part = "31 reserve, 33 laid: STANDS";
    PowersHouse x = house(0, 4);
    x.article();
    no("no such ARTICLE", x.reserve(1, 0, true));
    no("no such STATE", x.reserve(0, 4, true));
    no("no such STATE", x.reserve(0, -1, true));
    no("it is so", x.reserve(0, 0, false));
    write(x, 0, 1, 7);
    due("one DRAFT, four STATES", x.laid(0, 3), 4);
    yes("reserve", x.reserve(0, 1, true));
    no("it is so", x.reserve(0, 1, true));
    due("three", x.laid(0, 3), 3);
    yes("reserve", x.reserve(0, 2, true));
    due("two", x.laid(0, 3), 2);
    x.leave(2);
    due("its RESERVE doesn't count twice", x.laid(0, 3), 2);
    no("it has left", x.reserve(0, 2, false));
    yes("reserve", x.reserve(0, 3, true));
    due("one isn't enough", x.laid(0, 3), 0);
    due("but it isn't OPEN", x.laid(0, 2), 0);
    yes("no more", x.reserve(0, 1, false));
    due("two", x.laid(0, 3), 2);
    x.article();
    write(x, 1, 0, 1);
    due("RESERVES are of one ARTICLE", x.laid(1, 3), 3);
  }

  private static void leaving() {
    part = "35 leave";
    PowersHouse x = house(6, 4);
    for (int l = 0; l < 6; l++) {
      x.hold(l, 0);
    }
    due("no such STATE", x.leave(4), NONE);
    due("no such STATE", x.leave(-1), NONE);
    told(x, 1, "take got=9; refuse got=8; ask got=7; home 0;");
    x.worth(1, 0, 9);
    x.worth(1, 1, 8);
    x.worth(1, 2, 7);
    x.worth(1, 3, 9);
    x.offer(0, 1, 1, 0, 50, NONE);
    x.offer(0, 1, 2, 0, 50, NONE);
    x.offer(2, 3, 16, 0, 50, NONE);
    x.offer(0, 1, 8, 0, 50, 2);
    x.offer(0, 1, 32, 0, 50, NONE);
    x.offer(1, 3, 32, 0, 50, NONE);
    x.days(1);
    due("BOUND", x.paper(0, 2), 5);
    due("REFUSED", x.paper(1, 2), 3);
    due("PENDING", x.paper(2, 2), 0);
    due("TAKEN", x.paper(3, 2), 2);
    due("PENDING", x.paper(4, 2), 0);
    due("leave", x.leave(1), 3);
    due("BOUND stays", x.paper(0, 2), 5);
    due("HOLDER stays", x.look(0, 1), 1);
    due("REFUSED stays", x.paper(1, 2), 3);
    due("of others", x.paper(2, 2), 0);
    due("TAKEN is LAPSED", x.paper(3, 2), 4);
    due("to it", x.paper(4, 2), 4);
    due("from it", x.paper(5, 2), 4);
    due("again", x.leave(1), NONE);
    due("PRESENT", x.count(2), 13);
    due("STATES", x.count(1), 4);
    told(x, 3, "take 1;");
    x.days(1);
    due("linked to a LAPSED one", x.paper(2, 2), 6);
    // One that is ASKED.
    x = new PowersHouse();
    x.land(1);
    x.state(0, 0);
    x.state(0, 5);
    x.hold(0, 0);
    told(x, 1, "ask 1; home 1;");
    x.offer(0, 1, 1, 0, 50, NONE);
    x.days(1);
    due("ASKED", x.paper(0, 2), 1);
    due("leave", x.leave(0), 1);
    due("LAPSED", x.paper(0, 2), 4);
    x.days(20);
    due("LAPSED", x.paper(0, 2), 4);
    due("HOLDER", x.look(0, 1), 0);
  }

  /** 1: IndexOutOfBoundsException, 2: NoSuchElementException, 0: none. */
  private static int thrown(PowersHouse x, int land, int what) {
    try {
      x.look(land, what);
      return 0;
    } catch (IndexOutOfBoundsException e) {
      return 1;
    } catch (NoSuchElementException e) {
      return 2;
    }
  }

  private static void looks() {
    part = "37 look";
    PowersHouse x = house(0, 2);
    due("no LANDS", thrown(x, 0, 0), 1);
    x.land(77);
    due("SOULS", x.look(0, 0), 77);
    due("HOLDER", x.look(0, 1), NONE);
    due("CLAIMS", x.look(0, 2), 0);
    x.hold(0, 1);
    x.claim(0, 1, true);
    due("HOLDER", x.look(0, 1), 1);
    due("CLAIMS", x.look(0, 2), 2);
    due("no such LAND", thrown(x, 1, 0), 1);
    due("no such LAND", thrown(x, -1, 0), 1);
    due("no such LAND", thrown(x, Integer.MIN_VALUE, 2), 1);
    due("no such what", thrown(x, 0, 3), 2);
    due("no such what", thrown(x, 0, -1), 2);
    due("no such LAND comes first", thrown(x, 1, 3), 1);
  }

  private static void counts() {
    part = "38 count";
    PowersHouse x = house(3, 2);
    x.hold(1, 0);
    x.hold(2, 1);
    x.leave(1);
    x.note(0, 0, 1);
    x.days(4);
    x.article();
    x.article();
    x.spy(1, 0, 9, 9);
    int[] want = {3, 2, 1, 1, 4, 2, 1, 50};
    for (int what = 0; what < 8; what++) {
      due("count(" + what + ")", x.count(what), want[what]);
    }
    x.hold(1, NONE);
    due("what is held", x.count(7), 30);
    due("another what", x.count(8), NONE);
    due("another what", x.count(-1), NONE);
  }
}
