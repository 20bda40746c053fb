/**
 * For each sentence on a new object, the TAPE, ORDERS, FAULTS and VALUES (terms 2; promises 1 to 4,
 * 17 and 18) that names a boundary case, a test of its own.
 */
public final class BoundaryTextTest extends Checks {
  public static void main(String[] args) {
    lastCall();
    newObject();
    feedOrder();
    feedCounts();
    feedFull();
    ordersEmptyTheTape();
    ordersLines();
    ordersFault();
    ordersBehindFault();
    ordersRefused();
    faultOfLatest();
    faultWithout();
    faultAnotherWhat();
    emptyText();
    oneOrManyClauses();
    oneOrManyTerms();
    oneComparison();
    notOnlyBeforeClauses();
    minusOnlyBeforeTerms();
    closedParentheses();
    everyByte();
    words();
    numbers();
    joinedSigns();
    firstFault();
    leastFaultOfOnePlace();
    noToken();
    moreMustCome();
    tooGreatNumber();
    ninthParenthesis();
    knots();
    seventeenthVerb();
    truth();
    bothSides();
    division();
    byZero();
    greatValues();
    wrapAround();
    holding();
    namesOfNothing();
    namesAtTheirGreatest();
    nameNear();
    nameLeft();
    nameLinked();
    whyNone();
    triesNone();
    end();
  }

  // ---------------------------------------------------------------- promises 1 to 4

  private static void lastCall() {
    sentence("An object is used for at most 512 calls after it has been made");
    PowersHouse x = house(1, 1);
    for (int k = 3; k <= 511; k++) {
      x.bound(0, k);
    }
    due("the 512th call", x.core(), 1);
    x = house(1, 2);
    for (int k = 4; k <= 511; k++) {
      x.claim(0, k % 2, k % 4 < 2);
    }
    // Calls 508 and 509: 0 and 1 claim it; 510 and 511: they do no more.
    due("the 512th call", x.look(0, 2), 0);
    x = house(0, 1);
    for (int k = 2; k <= 511; k += 2) {
      x.feed(0x74616b65, 0x20313b20, 0x20202020, 0x20202020, 0x20202020);
      x.orders(k <= 509 ? 7 : 6, 0);
    }
    due("the 512th call", x.fault(1), 6);
  }

  private static void newObject() {
    sentence("No LANDS, STATES, PAPERS, ARTICLES; DAY 0; an empty TAPE.");
    PowersHouse x = new PowersHouse();
    for (int what = 0; what < 8; what++) {
      due("count(" + what + ")", x.count(what), 0);
    }
    due("look(0, 0) throws", thrown(x, 0, 0), 1);
    due("has(0)", x.has(0), NONE);
    due("paper(0, 0)", x.paper(0, 0), NO_SUCH);
    due("laid(0, 0)", x.laid(0, 0), NONE);
    due("the first STATE", x.state(0, 0), 0);
    due("the TAPE has no byte", x.orders(1, 0), NO_SUCH);
    due("the first twenty", x.feed(0, 0, 0, 0, 0), 20);
    due("the first LAND", x.land(1), 0);
    due("the first PAPER", x.note(0, 0, 1), 0);
    due("it is told on DAY 0", x.paper(0, 1), 0);
    due("the first ARTICLE", x.article(), 0);
    PowersHouse y = new PowersHouse();
    for (int what = 0; what < 8; what++) {
      due("count(" + what + ") of the next object", y.count(what), 0);
    }
  }

  private static void feedOrder() {
    sentence("Twenty bytes come behind the TAPE, four of each number, the highest first");
    for (int k = 0; k < 40; k++) {
      for (int b : new int[] {0, 1, 127, 128, 255}) {
        int[] n = new int[10];
        java.util.Arrays.fill(n, 0x20202020);
        int shift = 24 - 8 * (k % 4);
        n[k / 4] = n[k / 4] & ~(255 << shift) | b << shift;
        PowersHouse x = house(0, 1);
        x.feed(n[0], n[1], n[2], n[3], n[4]);
        x.feed(n[5], n[6], n[7], n[8], n[9]);
        due("byte " + b + " at " + k, x.orders(40, 0), NONE);
        due("the place of " + b + " at " + k, x.fault(1), k);
      }
    }
    PowersHouse x = house(1, 2);
    due("twenty", x.feed(0x74616b65, 0x20313b72, 0x65667573, 0x6520323b, 0x61736b20), 20);
    due("twenty behind", x.feed(0x333b686f, 0x6d652034, 0x3b202020, 0x20202020, 0x20202020), 40);
    due("the lines", x.orders(40, 1), 4);
    x.offer(0, 1, 1, 0, 9, NONE);
    for (int line = 0; line < 4; line++) {
      due("line " + line, x.tries(0, line), line + 1);
    }
  }

  private static void feedCounts() {
    sentence("how many it has");
    PowersHouse x = new PowersHouse();
    for (int n = 20; n <= 400; n += 20) {
      due("feed to " + n, x.feed(n, -n, LOW, HIGH, -1), n);
    }
  }

  private static void feedFull() {
    sentence("NONE, and none come, if it would have more than 400.");
    refused("feed of zeros to 400", FULL, x -> x.feed(0, 0, 0, 0, 0), NONE);
    refused("feed of ones to 400", FULL, x -> x.feed(-1, -1, -1, -1, -1), NONE);
    PowersHouse x = house(0, 1);
    fed(x, "take 1;             ".repeat(19) + "       refuse day<9;");
    due("a 21st feed", x.feed(-1, -1, -1, -1, -1), NONE);
    due("a 22nd feed", x.feed(-1, -1, -1, -1, -1), NONE);
    due("401 bytes", x.orders(401, 0), NO_SUCH);
    due("400 bytes, which have no other verb", x.orders(400, 0), NONE);
    due("the 17th VERB", x.fault(1), 320);
    due("room again", x.feed(0, 0, 0, 0, 0), 20);
    x = house(0, 1);
    fed(x, " ".repeat(380) + "       refuse day<9;");
    due("a 21st feed", x.feed(-1, -1, -1, -1, -1), NONE);
    due("400 bytes", x.orders(400, 0), 1);
  }

  private static void ordersEmptyTheTape() {
    sentence("The TAPE's first n bytes (it is empty then)");
    int[] ns = {0, 1, 7, 8, 13, 14, 20, 39, 40};
    int[] want = {0, NONE, 1, NONE, NONE, 2, NONE, 4, 4};
    for (int k = 0; k < ns.length; k++) {
      PowersHouse x = house(0, 1);
      fed(x, "take 1;take 2;take 3           ;take 4; ");
      due("orders(" + ns[k] + ", 0)", x.orders(ns[k], 0), want[k]);
      due("the TAPE is empty", x.orders(1, 0), NO_SUCH);
      due("the TAPE is empty", x.orders(0, 0), 0);
      due("the TAPE begins again", x.feed(0, 0, 0, 0, 0), 20);
    }
    PowersHouse x = house(0, 1);
    fed(x, "take 1;".repeat(2) + " ".repeat(386));
    due("all 400", x.orders(400, 0), 2);
    due("the TAPE is empty", x.orders(1, 0), NO_SUCH);
    x.leave(0);
    due("a STATE that left is one", told(x, 0, "take 1;"), 1);
  }

  private static void ordersLines() {
    sentence("how many lines");
    for (int n = 0; n <= 16; n++) {
      due(n + " lines", told(house(0, 1), 0, "home 1; ".repeat(n)), n);
    }
  }

  private static void ordersFault() {
    sentence("NONE with a FAULT");
    PowersHouse x = house(1, 2);
    due("ORDERS", told(x, 1, "take 5;"), 1);
    due("FAULT 1", told(x, 1, "take 6; take"), NONE);
    due("the TAPE is empty", x.orders(1, 1), NO_SUCH);
    due("FAULT 2", told(x, 1, "take 100000;"), NONE);
    due("the TAPE is empty", x.orders(1, 1), NO_SUCH);
    x.offer(0, 1, 1, 0, 9, NONE);
    due("a text with a FAULT is no ORDERS", x.tries(0, 0), 5);
  }

  /** What a text with a FAULT left unread is not of the next one. */
  private static void ordersBehindFault() {
    sentence("are the ORDERS of a STATE: how many lines; NONE with a FAULT;");
    String[] faults = {"take 1+", "take 1+2*", "take not", "take -", "take 1 or 2 and 3=",
        "take ((((((((1", "take 1=1=1", "take 1" + "+1".repeat(32), "take 1;".repeat(17),
        "take 100000"};
    for (String text : faults) {
      PowersHouse x = house(1, 2);
      x.offer(0, 1, 1, 0, 9, NONE);
      due("[" + text + "]", told(x, 1, text), NONE);
      due("the next one", told(x, 1, "take ((((((((5))))))))<6;take 7;"), 2);
      due("its first line", x.tries(0, 0), 1);
      due("its second line", x.tries(0, 1), 7);
      due("and no third", x.tries(0, 2), ERROR);
      due("[" + text + "]", told(x, 1, text), NONE);
      due("64 KNOTS", told(x, 1, "take -1" + "+1".repeat(31) + ";"), 1);
      due("their VALUE", x.tries(0, 0), 30);
    }
  }

  private static void ordersRefused() {
    sentence("-2, and the TAPE stays: there are not so many, n is below 0, no such STATE.");
    for (int n : outside(0, 40)) {
      refused("orders(" + n + ", 0)", RICH, x -> x.orders(n, 0), NO_SUCH);
    }
    for (int state : noSuch(4)) {
      refused("orders(7, " + state + ")", RICH, x -> x.orders(7, state), NO_SUCH);
      refused("orders(0, " + state + ")", RICH, x -> x.orders(0, state), NO_SUCH);
    }
    refused("401 of 400", FULL, x -> x.orders(401, 0), NO_SUCH);
    PowersHouse x = house(0, 1);
    due("one of none", x.orders(1, 0), NO_SUCH);
    x.feed(0x20202020, 0x20202020, 0x20202020, 0x20202020, 0x20202020);
    due("21 of 20", x.orders(21, 0), NO_SUCH);
    due("20 of 20", x.orders(20, 0), 0);
  }

  private static void faultOfLatest() {
    sentence("Of the latest orders() that was not -2");
    PowersHouse x = house(0, 2);
    due("none yet", x.fault(0), 0);
    due("none yet", x.fault(1), NONE);
    told(x, 0, "take 100000;");
    due("not so many", x.orders(1, 0), NO_SUCH);
    due("below 0", x.orders(-1, 0), NO_SUCH);
    due("no such STATE", x.orders(0, 2), NO_SUCH);
    due("the FAULT before those", x.fault(0), 2);
    due("the place before those", x.fault(1), 5);
    told(x, 1, "take");
    due("of another STATE", x.fault(0), 1);
    due("of another STATE", x.fault(1), 4);
    due("without FAULT", x.orders(0, 0), 0);
    due("without FAULT", x.fault(0), 0);
    due("without FAULT", x.fault(1), NONE);
  }

  private static void faultWithout() {
    sentence("what 0: its FAULT (0), 1: its place (NONE without).");
    PowersHouse x = house(0, 1);
    told(x, 0, "take 1;");
    due("no FAULT", x.fault(0), 0);
    due("no place", x.fault(1), NONE);
    told(x, 0, ")");
    due("a FAULT", x.fault(0), 1);
    due("place 0 isn't NONE", x.fault(1), 0);
    told(x, 0, " ".repeat(399) + ")");
    due("the last place of the longest text", x.fault(1), 399);
    told(x, 0, "take 1" + " ".repeat(394));
    due("the length of the longest text", x.fault(1), 400);
  }

  private static void faultAnotherWhat() {
    sentence("1: its place (NONE without). NONE for another what.");
    for (int what : noSuch(2)) {
      refused("fault(" + what + ")", RICH, x -> x.fault(what), NONE);
    }
  }

  // ---------------------------------------------------------------- FAULTS

  /** Kind 0: there is no FAULT, and there are so many lines as semicolons. */
  private static void fault(String text, int kind, int place) {
    PowersHouse x = house(0, 1);
    int lines = text.split(";", -1).length - 1;
    due("[" + text + "]", told(x, 0, text), kind == 0 ? lines : NONE);
    due("[" + text + "] fault", x.fault(0), kind);
    due("[" + text + "] place", x.fault(1), kind == 0 ? NONE : place);
  }

  private static void emptyText() {
    sentence("ORDERS of a STATE, a TEXT: { VERB E ';' }.");
    fault("", 0, 0);
    fault(" ", 0, 0);
    fault("\n \n", 0, 0);
    fault(";", 1, 0);
    fault("take;", 1, 4);
    fault("take 1", 1, 6);
    fault("take 1;;", 1, 7);
    fault("take take 1;", 1, 5);
    fault("take 1; 1;", 1, 8);
    fault("take 1; refuse 2; ask 3; home 4;", 0, 0);
    PowersHouse x = house(1, 2);
    told(x, 1, "take 1;");
    due("ORDERS of no lines", x.orders(0, 1), 0);
    x.offer(0, 1, 1, 0, 9, NONE);
    due("none of them", x.why(0), NONE);
  }

  private static void oneOrManyClauses() {
    sentence("E: A { or A }. A: B { and B }.");
    fault("take 1;", 0, 0);
    fault("take 1 or 1;", 0, 0);
    fault("take 1 and 1 and 1 or 1 or 1 and 1;", 0, 0);
    fault("take or;", 1, 5);
    fault("take and;", 1, 5);
    fault("take 1 or;", 1, 9);
    fault("take 1 and;", 1, 10);
    fault("take 1 or or 1;", 1, 10);
    fault("take 1 or and 1;", 1, 10);
    value("1 or 0 and 0", 1);
    value("0 and 0 or 1", 1);
    value("0 and (0 or 1)", 0);
  }

  private static void oneOrManyTerms() {
    sentence("S: T { ( + | - ) T }. T: U { ( * | / | % ) U }.");
    for (String sign : new String[] {"+", "-", "*", "/", "%"}) {
      fault("take 1" + sign + "1;", 0, 0);
      fault("take 1" + sign + "1" + sign + "1;", 0, 0);
      fault("take 1" + sign + ";", 1, 7);
      fault("take 1" + sign + "*1;", 1, 7);
      fault("take " + sign + ";", 1, sign.equals("-") ? 6 : 5);
    }
    value("9-4-3", 2);
    value("9-(4-3)", 8);
    value("36/6/2", 3);
    value("36/(6/2)", 12);
    value("9%5*2", 8);
    value("9%(5*2)", 9);
    value("2*9%5", 3);
    value("1+2*3", 7);
    value("7-2*3", 1);
    value("-2*3+1", -5);
  }

  private static void oneComparison() {
    sentence("C: S [ ( < | <= | = | <> | >= | > ) S ].");
    for (String sign : new String[] {"<", "<=", "=", "<>", ">=", ">"}) {
      int n = sign.length();
      fault("take 1" + sign + "2;", 0, 0);
      fault("take 1" + sign + ";", 1, 6 + n);
      fault("take " + sign + "1;", 1, 5);
      fault("take 1" + sign + "2 " + sign + " 3;", 1, 8 + n);
      fault("take (1" + sign + "2)" + sign + "(3" + sign + "4);", 0, 0);
      fault("take (1" + sign + "2" + sign + "3);", 1, 8 + n);
      fault("take 1" + sign + "(2" + sign + "3)" + sign + "4;", 1, 10 + 2 * n);
      fault("take 1" + sign + "2 and 3" + sign + "4 or 5" + sign + "6;", 0, 0);
      fault("take 1" + sign + "2;take 1" + sign + "2;", 0, 0);
      fault("take not 1" + sign + "2;", 0, 0);
    }
    value("1=1+1", 0);
    value("1+1=2", 1);
    value("3<2+2", 1);
    value("3-3>1-2", 1);
    value("4=2*2", 1);
    value("-1<0", 1);
    value("1=1 and 2=2", 1);
    value("0 or 2=2", 1);
  }

  private static void notOnlyBeforeClauses() {
    sentence("B: not B | C.");
    fault("take not 1;", 0, 0);
    fault("take not not not 1;", 0, 0);
    fault("take 1 and not 1 or not 1;", 0, 0);
    fault("take (not 1);", 0, 0);
    fault("take 1+(not 1);", 0, 0);
    fault("take -(not 1);", 0, 0);
    fault("take 1=(not 1);", 0, 0);
    fault("take not;", 1, 8);
    fault("take not and 1;", 1, 9);
    fault("take 1 not;", 1, 7);
    fault("take 1+not 1;", 1, 7);
    fault("take 1*not 1;", 1, 7);
    fault("take 1=not 1;", 1, 7);
    fault("take -not 1;", 1, 6);
    value("not 1=2", 1);
    value("not 0+1", 0);
    value("not 0 and 0", 0);
    value("not 1 or 1", 1);
    value("not (1 or 1)", 0);
  }

  private static void minusOnlyBeforeTerms() {
    sentence("U: - U | P.");
    fault("take -1;", 0, 0);
    fault("take ---1;", 0, 0);
    fault("take 1--1;", 0, 0);
    fault("take 1*-1;", 0, 0);
    fault("take 1=-1;", 0, 0);
    fault("take -(1);", 0, 0);
    fault("take -;", 1, 6);
    fault("take +1;", 1, 5);
    fault("take 1-+1;", 1, 7);
    fault("take 1-;", 1, 7);
  }

  private static void closedParentheses() {
    sentence("P: N | NAME | '(' E ')'.");
    fault("take (1);", 0, 0);
    fault("take ();", 1, 6);
    fault("take (1;", 1, 7);
    fault("take 1);", 1, 6);
    fault("take (1));", 1, 8);
    fault("take ((1);", 1, 9);
    fault("take (1", 1, 7);
    fault("take (1)(2);", 1, 8);
    fault("take 1(2);", 1, 6);
    fault("take (take 1);", 1, 6);
    fault("take (1;);", 1, 7);
  }

  /** One byte of each kind between a number and a semicolon. */
  private static void everyByte() {
    sentence("N: digits, 0 .. 99999; blanks 10, 32;");
    for (int b = 0; b < 256; b++) {
      boolean fine = b == 10 || b == 32 || (b >= '0' && b <= '9');
      boolean wantsMore = "+-*/%<=>".indexOf(b) >= 0;
      int place = wantsMore || b == ';' ? 7 : 6;
      PowersHouse x = house(0, 1);
      due("byte " + b, told(x, 0, "take 1" + (char) b + ";"), fine ? 1 : NONE);
      due("byte " + b, x.fault(0), fine ? 0 : 1);
      due("byte " + b, x.fault(1), fine ? NONE : place);
      // At the front: a blank alone may stand before a verb.
      boolean blank = b == 10 || b == 32;
      x = house(0, 1);
      due("byte " + b + " in front", told(x, 0, (char) b + "take 1;"), blank ? 1 : NONE);
      due("byte " + b + " in front", x.fault(1), blank ? NONE : 0);
    }
  }

  private static void words() {
    sentence("Words: small letters in a row;");
    String[] all = {"gain", "got", "lost", "souls", "near", "mine", "bound", "rank", "other", "day",
        "left", "linked"};
    for (String name : all) {
      int n = name.length();
      fault("take " + name + ";", 0, 0);
      fault("take " + name.substring(1) + ";", 1, 5);
      fault("take " + name.substring(0, n - 1) + ";", 1, 5);
      fault("take " + name + "a;", 1, 5);
      fault("take " + name + "z;", 1, 5);
      fault("take " + name + name + ";", 1, 5);
      fault("take " + name + "1;", 1, 5 + n);
      fault("take " + name + "`;", 1, 5 + n);
      fault("take " + name + "{;", 1, 5 + n);
      fault("take " + name.toUpperCase() + ";", 1, 5);
      fault("take " + name.substring(0, n - 1) + " " + name.charAt(n - 1) + ";", 1, 5);
    }
    for (String verb : new String[] {"take", "refuse", "ask", "home"}) {
      fault(verb + " 1;", 0, 0);
      fault(verb + "1;", 0, 0);
      fault(verb + "(1);", 0, 0);
      fault(verb + "\n1;", 0, 0);
      fault(verb + "s 1;", 1, 0);
      fault(verb + "gain;", 1, 0);
      fault(verb.substring(1) + " 1;", 1, 0);
      fault(verb.substring(0, verb.length() - 1) + " 1;", 1, 0);
      fault("take " + verb + ";", 1, 5);
    }
    for (String sign : new String[] {"and", "or"}) {
      int n = sign.length();
      fault("take 1" + sign + "1;", 0, 0);
      fault("take 1" + sign + "gain;", 1, 6);
      fault("take 1 " + sign + ";", 1, 7 + n);
      fault("take " + sign + " 1;", 1, 5);
      fault(sign + " 1;", 1, 0);
    }
  }

  private static void numbers() {
    sentence("N: digits, 0 .. 99999;");
    fault("take 0;", 0, 0);
    fault("take 99999;", 0, 0);
    fault("take 100000;", 2, 5);
    fault("take 00000000000;", 0, 0);
    fault("take 00000000000099999;", 0, 0);
    fault("take 0000000000100000;", 2, 5);
    fault("take 9 9;", 1, 7);
    value("0", 0);
    value("00", 0);
    value("99999", 99999);
    value("0000000012345", 12345);
    value("1234567890/1234567890", ERROR);
  }

  private static void joinedSigns() {
    sentence("a = (or > behind <) right behind < or > belongs to it.");
    fault("take 1<=2;", 0, 0);
    fault("take 1< =2;", 1, 8);
    fault("take 1<\n=2;", 1, 8);
    fault("take 1>=2;", 0, 0);
    fault("take 1> =2;", 1, 8);
    fault("take 1<>2;", 0, 0);
    fault("take 1< >2;", 1, 8);
    fault("take 1><2;", 1, 7);
    fault("take 1>>2;", 1, 7);
    fault("take 1<<2;", 1, 7);
    fault("take 1==2;", 1, 7);
    fault("take 1=>2;", 1, 7);
    fault("take 1=<2;", 1, 7);
    fault("take 1<==2;", 1, 8);
    fault("take 1<>=2;", 1, 8);
    fault("take 1<", 1, 7);
    fault("take 1<=", 1, 8);
    fault("take 1<>", 1, 8);
    // The sign that belongs to it stands behind the text's end, so it is not of it.
    PowersHouse x = house(0, 1);
    fed(x, "take 1<=2;");
    due("cut behind <", x.orders(7, 0), NONE);
    due("more must come at 7", x.fault(1), 7);
  }

  private static void firstFault() {
    sentence("FAULTS, the first along the text (of one place the least), with its place");
    fault("take 1 2 100000;", 1, 7);
    fault("take 100000 1 2;", 2, 5);
    fault("take 100000", 2, 5);
    fault("take 1) take (((((((((1;", 1, 6);
    fault("take (((((((((1 ?", 2, 13);
    fault("give 1; take 100000;", 1, 0);
    fault("take 1; take 100000; give 1;", 2, 13);
  }

  private static void leastFaultOfOnePlace() {
    sentence("(of one place the least)");
    fault("100000;", 1, 0);
    fault("take 1 100000;", 1, 7);
    fault("take ((((((((1(2;", 1, 14);
    String full = "take 1" + "+1".repeat(31) + ";home 2;";
    // 64 KNOTS are there: what would be the 65th, but can't stand there, is FAULT 1.
    fault(full + "gain", 1, 76);
    fault(full + "not 1", 1, 76);
    fault(full + "take <1;", 1, 81);
    fault(full + "take and 1;", 1, 81);
    fault(full + "take 1;", 2, 81);
    fault("home 1;".repeat(16) + "gain", 1, 112);
    fault("home 1;".repeat(15) + "home home", 1, 110);
  }

  private static void noToken() {
    sentence("1 a TOKEN that is none (another word, too) or can't stand there");
    fault("give 1;", 1, 0);
    fault("take give;", 1, 5);
    fault("take 1 give;", 1, 7);
    fault("take 1 ?;", 1, 7);
    fault("? take 1;", 1, 0);
    fault("take ?;", 1, 5);
    fault("take 1; ?", 1, 8);
    fault("take x;", 1, 5);
    fault("take 1 \u00ff;", 1, 7);
  }

  private static void moreMustCome() {
    sentence("(the length, if more must come)");
    fault("take", 1, 4);
    fault("take ", 1, 5);
    fault("take\n\n ", 1, 7);
    fault("take 1", 1, 6);
    fault("take 1  ", 1, 8);
    fault("take 1+", 1, 7);
    fault("take -", 1, 6);
    fault("take not", 1, 8);
    fault("take (", 1, 6);
    fault("take (1", 1, 7);
    fault("take 1 and", 1, 10);
    fault("take 1; ask", 1, 11);
    PowersHouse x = house(0, 1);
    fed(x, "take 1;");
    due("the first 6 bytes", x.orders(6, 0), NONE);
    due("their length", x.fault(1), 6);
  }

  private static void tooGreatNumber() {
    sentence("2 too much (at it): a number,");
    fault("take 99999;", 0, 0);
    fault("take 100000;", 2, 5);
    fault("take 1+100000;", 2, 7);
    fault("take 999999;", 2, 5);
    // What would be small again by a wrap-around of 32 or 64 bits.
    fault("take 4294967296;", 2, 5);
    fault("take 4294967297;", 2, 5);
    fault("take 18446744073709551616;", 2, 5);
    fault("take 18446744073709551617;", 2, 5);
    fault("take " + "9".repeat(390) + ";", 2, 5);
    fault("take " + "0".repeat(390) + ";", 0, 0);
  }

  private static void ninthParenthesis() {
    sentence("a ninth '(' open,");
    fault("take " + "(".repeat(8) + "1" + ")".repeat(8) + ";", 0, 0);
    fault("take " + "(".repeat(9) + "1" + ")".repeat(9) + ";", 2, 13);
    fault("take " + "(".repeat(9), 2, 13);
    fault("take " + "(1)+".repeat(20) + "1;", 0, 0);
    fault("take " + "(".repeat(7) + "(1)+(1)+((1))", 2, 14 + 7);
    fault("take " + "(".repeat(8) + "1)+(1" + ")".repeat(8) + ";", 0, 0);
    fault("take (1); ".repeat(9), 0, 0);
  }

  private static void knots() {
    sentence("a 65th KNOT (N, NAMES, signs, not, and, or: one each)");
    String[] signs = {"+", "-", "*", "/", "%", " and ", " or "};
    for (String sign : signs) {
      int n = sign.length();
      int at = sign.trim().equals(sign) ? 0 : 1;
      String half = (sign + "1").repeat(31);
      // 1 and 31 times a sign and 1 are 63 KNOTS.
      fault("take 1" + half + ";", 0, 0);
      fault("take not 1" + half + ";", 0, 0);
      fault("take 1" + half + sign + "1;", 2, 6 + 31 * (n + 1) + n);
      fault("take not 1" + half + sign + "1;", 2, 10 + 31 * (n + 1) + at);
      fault("take 1" + half + sign + "gain;", 2, 6 + 31 * (n + 1) + n);
      fault("take 1" + half + sign + "-1;", 2, 6 + 31 * (n + 1) + n);
      fault("take 1" + half + ";ask 1;", 0, 0);
      fault("take 1" + half + ";ask -1;", 2, 12 + 31 * (n + 1));
      fault("take 1" + half + ";ask 1;ask 1;", 2, 17 + 31 * (n + 1));
    }
    for (String sign : new String[] {"<", "<=", "=", "<>", ">=", ">"}) {
      String sixty = ("1" + sign + "1 or ").repeat(16);
      int n = sign.length();
      // Each has 4 KNOTS: two numbers, the sign (as one, if two bytes long, too) and the or.
      fault("take " + sixty + "1;", 2, 5 + 16 * (6 + n));
      fault("take " + ("1" + sign + "1 or ").repeat(15) + "1" + sign + "1;", 0, 0);
      fault("take not " + ("1" + sign + "1 or ").repeat(15) + "1" + sign + "1;", 0, 0);
      fault("take not not " + ("1" + sign + "1 or ").repeat(15) + "1" + sign + "1;", 2,
          5 + 8 + 15 * (6 + n) + 1 + n);
    }
    fault("take " + "not ".repeat(63) + "1;", 0, 0);
    fault("take " + "not ".repeat(64) + "1;", 2, 5 + 256);
    fault("take " + "not ".repeat(65) + "1;", 2, 5 + 256);
    fault("take " + "-".repeat(63) + "1;", 0, 0);
    fault("take " + "-".repeat(64) + "1;", 2, 5 + 64);
    fault("take " + "-".repeat(65) + "1;", 2, 5 + 64);
    fault("take " + "-".repeat(64) + "(1);", 2, 5 + 65);
    // Parentheses, semicolons and VERBS are none.
    fault("take " + "(1)+".repeat(31) + "((((1+1))));", 2, 5 + 124 + 6);
    fault("take " + "(1)+".repeat(31) + "((((1))));", 0, 0);
    fault("take 1+1+1+1;".repeat(9) + "take 1;", 0, 0);
    fault("take 1+1+1+1;".repeat(9) + "take 1+1;", 2, 117 + 6);
    value("-1" + "+1".repeat(31), 30);
    value("not ".repeat(63) + "1", 0);
    value("not ".repeat(62) + "gain", 0);
    value("-".repeat(63) + "1", -1);
    value("-(".repeat(8) + "-1" + ")".repeat(8) + "-1".repeat(27), -28);
    // The next text begins anew.
    PowersHouse x = house(0, 1);
    due("64 KNOTS", told(x, 0, "take -1" + "+1".repeat(31) + ";"), 1);
    due("64 KNOTS again", told(x, 0, "take -1" + "+1".repeat(31) + ";"), 1);
  }

  private static void seventeenthVerb() {
    sentence("a 17th VERB.");
    for (String verb : new String[] {"take", "refuse", "ask", "home"}) {
      fault("ask 1; ".repeat(15) + verb + " 1;", 0, 0);
      fault("ask 1; ".repeat(16) + verb + " 1;", 2, 112);
      fault("ask 1; ".repeat(16) + verb, 2, 112);
    }
    fault("ask 1; ".repeat(16) + " ", 0, 0);
    fault("ask 1; ".repeat(16) + "give", 1, 112);
    PowersHouse x = house(1, 2);
    told(x, 1, "home 1; ".repeat(15) + "take 77;");
    x.offer(0, 1, 1, 0, 9, NONE);
    due("the 16th line is one as the first", x.tries(0, 15), 77);
    due("there is no 17th", x.tries(0, 16), ERROR);
    due("it is the line that does", x.why(0), 15);
  }

  // ---------------------------------------------------------------- VALUES

  private static void value(String e, long want) {
    PowersHouse x = house(1, 2);
    told(x, 1, "take " + e + ";");
    x.offer(0, 1, 1, 0, 9, NONE);
    due("VALUE of " + e, x.tries(0, 0), want);
    due("whether " + e + " holds", x.why(0), want == ERROR || want == 0 ? NONE : 0);
  }

  private static void truth() {
    sentence("comparisons, and, or, not are 1 or 0 (what isn't 0 is as 1;");
    long[] some = {-2, -1, 0, 1, 2, 99999};
    for (long a : some) {
      value("not " + a, a == 0 ? 1 : 0);
      for (long b : some) {
        value(a + " and " + b, a != 0 && b != 0 ? 1 : 0);
        value(a + " or " + b, a != 0 || b != 0 ? 1 : 0);
        value(a + "<" + b, a < b ? 1 : 0);
        value(a + "<=" + b, a <= b ? 1 : 0);
        value(a + "=" + b, a == b ? 1 : 0);
        value(a + "<>" + b, a != b ? 1 : 0);
        value(a + ">=" + b, a >= b ? 1 : 0);
        value(a + ">" + b, a > b ? 1 : 0);
      }
    }
  }

  private static void bothSides() {
    sentence("both sides are worked out)");
    value("1 or 1/0", ERROR);
    value("1/0 or 1", ERROR);
    value("0 and 1/0", ERROR);
    value("1/0 and 0", ERROR);
    value("1 or 1 or 1%0", ERROR);
    value("0*(1/0)", ERROR);
  }

  private static void division() {
    sentence("/ towards 0, % what is left then.");
    long[] some = {-7, -3, -2, -1, 0, 1, 2, 3, 7};
    for (long a : some) {
      for (long b : some) {
        if (b != 0) {
          value(a + "/" + b, a / b);
          value(a + "%" + b, a - a / b * b);
        }
      }
    }
    value("-7/2", -3);
    value("7/-2", -3);
    value("-7%2", -1);
    value("7%-2", 1);
  }

  private static void byZero() {
    sentence("ERROR: / or % by 0,");
    for (String e : new String[] {"1/0", "0/0", "-1/0", "1%0", "0%0", "5/(3-3)", "5%(day*7)"}) {
      value(e, ERROR);
    }
    value("0/1", 0);
    value("0%1", 0);
    value("5/(day+1)", 5);
  }

  private static void greatValues() {
    sentence("a value above 10 to the 12 or below 0 by more than that:");
    String top = "(10000*10000*10000)";
    long n = 1000000000000L;
    value(top, n);
    value(top + "+0", n);
    value(top + "+1", ERROR);
    value(top + "-1", n - 1);
    value(top + "-1+1", n);
    value("1+" + top, ERROR);
    value("-" + top, -n);
    value("--" + top, n);
    value("-" + top + "-1", ERROR);
    value("-" + top + "+1", 1 - n);
    value("0-" + top, -n);
    value("-1-" + top, ERROR);
    value(top + "-" + top, 0);
    value(top + "+" + top, ERROR);
    value("(" + top + "+1)*0", ERROR);
    value(top + "+1-1", ERROR);
    value("(" + top + "+1)=0", ERROR);
    value("not (" + top + "+1)", ERROR);
    value(top + "*1", n);
    value(top + "*-1", -n);
    value("-1*" + top, -n);
    value(top + "*2", ERROR);
    value("-2*" + top, ERROR);
    value(top + "/-1", -n);
    value(top + "%7", n % 7);
    value("(" + top + "-1)*1", n - 1);
    value("99999*99999*100", 999980000100L);
    value("99999*99999*101", ERROR);
    // 1000001 times 1000000 is above, 999999 times 1000000 isn't; the greatest root is 10 to the 6.
    value("(1000*1000)*(1000*1000)", n);
    value("(1000*1000+1)*(1000*1000)", ERROR);
    value("(1000*1000+1)*(1000*1000-1)", n - 1);
    value("-(1000*1000)*(1000*1000)", -n);
    value("(1000*1000)*-(1000*1000+1)", ERROR);
  }

  private static void wrapAround() {
    sentence("VALUES are longs;");
    String half = "(65536*65536)";
    // 2 to the 64 would be 0 again, 2 to the 63 the least long; a value of 32 bits would be 0, too.
    value(half, 4294967296L);
    value(half + "*" + half, ERROR);
    value(half + "*" + half + "=0", ERROR);
    value(half + "*(32768*65536)", ERROR);
    value(half + "*" + half + "+1", ERROR);
    value(half + "*(" + half + "+1)", ERROR);
    value("(" + half + "+1)*(" + half + "+1)", ERROR);
    value("-" + half + "*" + half, ERROR);
    value("-" + half + "*-" + half, ERROR);
    value("32768*65536", 2147483648L);
    value("32768*65536-1", 2147483647L);
    value("-32768*65536-1", -2147483649L);
  }

  private static void holding() {
    sentence("a line with an ERROR doesn't hold; one holds if its E isn't 0.");
    PowersHouse x = house(1, 2);
    told(x, 1, "take 1/0; take 0; take 1-2; take 1;");
    x.offer(0, 1, 1, 0, 9, NONE);
    due("the first that holds", x.why(0), 2);
    told(x, 1, "take 1/0; refuse 99999*99999*99999; ask 0;");
    due("none holds", x.why(0), NONE);
    x.days(1);
    due("it stays", x.paper(0, 2), 0);
    // As often as it may be: what was left half worked out isn't of the next VALUE.
    told(x, 1, "take 1+(2+(3+(4/0))); take 7;");
    for (int k = 0; k < 70; k++) {
      due("an ERROR", x.tries(0, 0), ERROR);
      due("the line behind it", x.tries(0, 1), 7);
      due("it is the line that does", x.why(0), 1);
    }
    told(x, 1, "take 10000*10000*10000;");
    due("the greatest holds", x.why(0), 0);
    told(x, 1, "take -10000*10000*10000;");
    due("the least holds", x.why(0), 0);
  }

  // ---------------------------------------------------------------- NAMES

  private static final String NAMES_IN_ORDER =
      "take gain;take got;take lost;take souls;take near;take mine;take bound;"
          + "take rank;take other;take day;take left;take linked;";

  private static void namesOfNothing() {
    sentence("got: the WORTHS of what it would get, lost: of what it would give");
    PowersHouse x = house(3, 2);
    told(x, 1, NAMES_IN_ORDER);
    x.offer(0, 1, 1, 0, 0, NONE);
    long[] want = {0, 0, 0, 10, 0, 0, 0, 1, 0, 0, 0, 0};
    for (int k = 0; k < want.length; k++) {
      due("name " + k + " where nothing was told", x.tries(0, k), want[k]);
    }
    x.worth(1, 0, 7);
    x.worth(1, 1, 50);
    x.worth(0, 0, 99);
    due("gain of what it gets alone", x.tries(0, 0), 7);
    due("lost of nothing", x.tries(0, 2), 0);
    x.offer(0, 1, 0, 3, 0, NONE);
    due("gain of what it gives alone", x.tries(1, 0), -57);
    due("got of nothing", x.tries(1, 1), 0);
    due("lost", x.tries(1, 2), 57);
    due("souls below 0", x.tries(1, 3), -30);
  }

  private static void namesAtTheirGreatest() {
    sentence("souls: SOULS that it would get less those it would give;");
    PowersHouse x = new PowersHouse();
    x.state(0, 0);
    x.state(99, 0);
    for (int l = 0; l < 12; l++) {
      x.land(9999);
      x.worth(1, l, 99);
      x.hold(l, 1);
    }
    x.bound(1, 999);
    told(x, 1, NAMES_IN_ORDER);
    passDays(x, 299);
    x.offer(0, 1, 4095, 0, 300, NONE);
    x.offer(0, 1, 0, 4095, 300, 0);
    long[] want = {1188, 1188, 0, 119988, 0, 1188, 999, 99, 0, 299, 1, 0};
    long[] second = {-1188, 0, 1188, -119988, 0, 1188, 999, 99, 0, 299, 1, 1};
    for (int k = 0; k < want.length; k++) {
      due("name " + k, x.tries(0, k), want[k]);
      due("name " + k + " of the second", x.tries(1, k), second[k]);
    }
  }

  private static void nameNear() {
    sentence("near: how many of the LANDS that it would get are NEAR one that it holds and would "
        + "not give;");
    PowersHouse x = house(12, 2);
    told(x, 1, "take near;");
    for (int l = 0; l < 11; l++) {
      x.near(l, 11);
    }
    x.offer(0, 1, 2047, 0, 9, NONE);
    x.offer(0, 1, 1023, 2048, 9, NONE);
    x.offer(0, 1, 1025, 0, 9, NONE);
    x.offer(0, 1, 0, 1, 9, NONE);
    due("it holds none", x.tries(0, 0), 0);
    x.hold(11, 0);
    due("another one holds it", x.tries(0, 0), 0);
    x.hold(11, 1);
    due("all eleven", x.tries(0, 0), 11);
    due("it would give that one", x.tries(1, 0), 0);
    due("two", x.tries(2, 0), 2);
    due("it would get none", x.tries(3, 0), 0);
    x.near(0, 1);
    x.hold(0, 1);
    due("NEAR two that it holds counts once", x.tries(0, 0), 11);
    due("NEAR one that it holds and gets", x.tries(1, 0), 1);
  }

  private static void nameLeft() {
    sentence("left: its last DAY less TODAY;");
    PowersHouse x = house(1, 2);
    told(x, 1, "take left<0; home 0;");
    told(x, 0, "take 0-left;");
    x.offer(0, 1, 1, 0, 2, NONE);
    x.offer(1, 0, 1, 0, 2, NONE);
    due("two DAYS", x.tries(1, 0), -2);
    x.days(1);
    x.offer(0, 1, 1, 0, 2, NONE);
    x.days(1);
    due("on the last DAY", x.tries(1, 0), 0);
    due("not below 0 on it", x.why(2), NONE);
    x.days(1);
    due("below 0 behind it", x.tries(1, 0), 1);
    due("below 0 behind it", x.why(2), 0);
    due("but it is LAPSED", x.paper(2, 2), 4);
  }

  private static void nameLinked() {
    sentence("linked: 1 if it is LINKED, else 0.");
    PowersHouse x = house(2, 2);
    told(x, 1, "take linked;");
    x.offer(0, 1, 1, 0, 9, NONE);
    x.offer(0, 1, 2, 0, 9, 0);
    x.offer(0, 1, 2, 0, 9, 1);
    due("the one on which another hangs isn't", x.tries(0, 0), 0);
    due("LINKED to PAPER 0", x.tries(1, 0), 1);
    due("LINKED to PAPER 1", x.tries(2, 0), 1);
  }

  // ---------------------------------------------------------------- promises 17 and 18

  private static void whyNone() {
    sentence("NONE: none would, or no such OFFER.");
    PowersHouse x = house(1, 3);
    x.offer(0, 1, 1, 0, 9, NONE);
    x.note(0, 1, 5);
    due("without ORDERS", x.why(0), NONE);
    told(x, 1, "home 1;");
    due("a line of home", x.why(0), NONE);
    told(x, 1, "take 0; refuse 0; ask 0;");
    due("none holds", x.why(0), NONE);
    told(x, 1, "home 1; refuse 1; take 1;");
    due("line 1", x.why(0), 1);
    told(x, 1, "ask 1;");
    due("line 0 isn't NONE", x.why(0), 0);
    due("a NOTE", x.why(1), NONE);
    for (int p : noSuch(9)) {
      refused("why(" + p + ")", RICH, y -> y.why(p), NONE);
    }
  }

  private static void triesNone() {
    sentence("Long.MIN_VALUE: an ERROR, or no such ones.");
    PowersHouse x = house(1, 2);
    x.offer(0, 1, 1, 0, 9, NONE);
    x.note(0, 1, 5);
    due("without ORDERS", x.tries(0, 0), ERROR);
    told(x, 0, "take 1; take 2;");
    due("ORDERS of the other STATE", x.tries(0, 0), ERROR);
    told(x, 1, "take 5; home 6; ask 1/0;");
    due("the first line", x.tries(0, 0), 5);
    due("a line of home", x.tries(0, 1), 6);
    due("the last line: an ERROR", x.tries(0, 2), ERROR);
    due("a NOTE", x.tries(1, 0), ERROR);
    for (int line : noSuch(3)) {
      due("line " + line, x.tries(0, line), ERROR);
    }
    for (int line : noSuch(4)) {
      refused("tries(0, " + line + ")", RICH, y -> y.tries(0, line), ERROR);
    }
    for (int p : noSuch(9)) {
      refused("tries(" + p + ", 0)", RICH, y -> y.tries(p, 0), ERROR);
    }
  }
}
