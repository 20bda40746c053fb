/**
 * For each sentence on OFFERS, NOTES, SPIES, DAYS and leaving (terms 3 and 6; promises 12 to 16, 19,
 * 20 and 35) that names a boundary case, a test of its own.
 */
public final class BoundaryPapersTest extends Checks {
  private static final int PENDING = 0;
  private static final int ASKED = 1;
  private static final int TAKEN = 2;
  private static final int REFUSED = 3;
  private static final int LAPSED = 4;
  private static final int BOUND = 5;
  private static final int VOID = 6;

  public static void main(String[] args) {
    lastPaper();
    offerStates();
    offerLands();
    offerTill();
    offerLinks();
    offerWithoutLink();
    offerAtFirst();
    papersFull();
    noteNoSuch();
    spyStates();
    spyDays();
    spiesFull();
    todayAtMost();
    daysNumber();
    daysBeyond();
    lapsed();
    lapsedByLeaving();
    firstLineThatHolds();
    staysWithoutLine();
    answerDay();
    answerNow();
    answerRefused();
    answerBehindLastDay();
    chainBroken();
    chainBrokenEndsAll();
    chainWaits();
    chainCarriedOut();
    chainNotHeld();
    chainByTwo();
    chainOfAll();
    knownToBoth();
    knownHome();
    knownToOneThatOpens();
    spyBothDays();
    spyDayBehind();
    spyToldLater();
    paperWhats();
    paperLines();
    paperNoSuch();
    knownNone();
    heardNone();
    heardByDay();
    leaveLapses();
    leaveNoSuch();
    end();
  }

  // ---------------------------------------------------------------- promises 12 to 15

  private static void lastPaper() {
    sentence("PAPERS, at most 60, numbered from 0 on.");
    PowersHouse x = house(2, 2);
    x.hold(0, 0);
    told(x, 1, "take linked;");
    for (int p = 0; p < 58; p++) {
      due("PAPER " + p, p % 2 == 0 ? x.note(0, 0, 9) : x.offer(0, 1, 2, 0, 300, NONE), p);
      due("PAPERS", x.count(3), p + 1);
    }
    due("an OFFER", x.offer(0, 1, 1, 0, 300, NONE), 58);
    due("the 60th", x.offer(0, 1, 2, 1, 300, 58), 59);
    due("a 61st", x.offer(0, 1, 2, 0, 300, NONE), NONE);
    due("a 61st", x.note(0, 0, 9), NONE);
    due("PAPERS", x.count(3), 60);
    due("paper", x.paper(59, 0), 0);
    due("why", x.why(59), 0);
    due("tries", x.tries(59, 0), 1);
    due("known", x.known(59, 1), 0);
    x.days(1);
    due("TAKEN", x.paper(59, 2), TAKEN);
    due("no 61st", x.paper(60, 0), NO_SUCH);
  }

  /** Each of these on a rich house: three STATES are PRESENT, STATE 3 left, five LANDS, DAY 2. */
  private static void noOffer(String why, int... n) {
    String call = why + ": offer(" + n[0] + ", " + n[1] + ", " + n[2] + ", " + n[3] + ", " + n[4]
        + ", " + n[5] + ")";
    refused(call, RICH, x -> x.offer(n[0], n[1], n[2], n[3], n[4], n[5]), NONE);
  }

  private static void anOffer(String why, int... n) {
    due(why, RICH.get().offer(n[0], n[1], n[2], n[3], n[4], n[5]), 9);
  }

  private static void offerStates() {
    sentence("NONE: it can't be (STATES PRESENT),");
    for (int state : noSuch(4)) {
      noOffer("no such STATE", state, 0, 1, 0, 9, NONE);
      noOffer("no such STATE", 0, state, 1, 0, 9, NONE);
      noOffer("no such STATES", state, state, 1, 0, 9, NONE);
    }
    for (int state = 0; state < 3; state++) {
      noOffer("from one that left", 3, state, 1, 0, 9, NONE);
      noOffer("to one that left", state, 3, 1, 0, 9, NONE);
      noOffer("to itself", state, state, 1, 0, 9, NONE);
      anOffer("to the next", state, (state + 1) % 3, 1, 0, 9, NONE);
    }
  }

  private static void offerLands() {
    sentence("(each as bits, not both none, none in both)");
    noOffer("both none", 0, 1, 0, 0, 9, NONE);
    for (int l = 0; l < 5; l++) {
      noOffer("one in both", 0, 1, 1 << l, 1 << l, 9, NONE);
      noOffer("one in both", 0, 1, 31, 1 << l, 9, NONE);
      noOffer("one in both", 0, 1, 1 << l, 31, 9, NONE);
      anOffer("one given", 0, 1, 1 << l, 0, 9, NONE);
      anOffer("one taken", 0, 1, 0, 1 << l, 9, NONE);
      anOffer("one given, all others taken", 0, 1, 1 << l, 31 ^ 1 << l, 9, NONE);
    }
    anOffer("all given", 0, 1, 31, 0, 9, NONE);
    anOffer("all taken", 0, 1, 0, 31, 9, NONE);
    for (int l = 5; l < 32; l++) {
      noOffer("no such LAND", 0, 1, 1 << l, 0, 9, NONE);
      noOffer("no such LAND", 0, 1, 0, 1 << l, 9, NONE);
      noOffer("no such LAND with one", 0, 1, 1 | 1 << l, 2, 9, NONE);
      noOffer("no such LAND with one", 0, 1, 1, 2 | 1 << l, 9, NONE);
    }
    noOffer("all bits", 0, 1, -1, 0, 9, NONE);
    due("no LANDS", house(0, 2).offer(0, 1, 1, 0, 9, NONE), NONE);
    due("all twelve", house(12, 2).offer(0, 1, 4095, 0, 9, NONE), 0);
    due("a thirteenth", house(12, 2).offer(0, 1, 4096, 0, 9, NONE), NONE);
    due("a thirteenth", house(12, 2).offer(0, 1, 0, 8191, 9, NONE), NONE);
  }

  private static void offerTill() {
    sentence("good till a DAY (TODAY at least);");
    for (int till : outside(2, 300)) {
      noOffer("no such DAY", 0, 1, 1, 0, till, NONE);
    }
    anOffer("till TODAY", 0, 1, 1, 0, 2, NONE);
    anOffer("till 300", 0, 1, 1, 0, 300, NONE);
    PowersHouse x = house(1, 2);
    due("till DAY 0", x.offer(0, 1, 1, 0, 0, NONE), 0);
    passDays(x, 300);
    due("till 299 on DAY 300", x.offer(0, 1, 1, 0, 299, NONE), NONE);
    due("till 301 on DAY 300", x.offer(0, 1, 1, 0, 301, NONE), NONE);
    due("till 300 on DAY 300", x.offer(0, 1, 1, 0, 300, NONE), 1);
  }

  private static void offerLinks() {
    sentence("links is no OFFER,");
    for (int links : noSuch(9)) {
      if (links != NONE) {
        noOffer("links", 0, 1, 1, 0, 9, links);
      }
    }
    for (int p = 0; p < 9; p++) {
      if (p >= 5 && p <= 7) {
        noOffer("links to a NOTE", 0, 1, 1, 0, 9, p);
      } else {
        anOffer("links to an OFFER, whatever became of it", 0, 1, 1, 0, 9, p);
      }
    }
    due("to itself", house(1, 2).offer(0, 1, 1, 0, 9, 0), NONE);
  }

  private static void offerWithoutLink() {
    sentence("An OFFER (links NONE: it isn't LINKED): its number;");
    PowersHouse x = house(1, 2);
    told(x, 1, "take linked;");
    due("not LINKED", x.offer(0, 1, 1, 0, 9, NONE), 0);
    due("LINKED to PAPER 0", x.offer(0, 1, 1, 0, 9, 0), 1);
    due("not LINKED", x.tries(0, 0), 0);
    due("LINKED", x.tries(1, 0), 1);
  }

  private static void offerAtFirst() {
    sentence("An OFFER is PENDING at first;");
    PowersHouse x = answering();
    for (int l = 0; l < 7; l++) {
      due("OFFER " + l, gift(x, l, NONE), l);
      due("PENDING, whatever the ORDERS say", x.paper(l, 2), PENDING);
      due("no DAY of an answer", x.paper(l, 6), NONE);
      due("nothing moves", x.look(l, 1), 0);
    }
  }

  private static void papersFull() {
    sentence("links is no OFFER, or there are 60.");
    refused("a 61st OFFER", FULL, x -> x.offer(0, 1, 1, 0, 9, NONE), NONE);
    refused("a 61st OFFER that is LINKED", FULL, x -> x.offer(0, 1, 1, 0, 9, 1), NONE);
    sentence("A NOTE: its number; NONE: no such STATES (PRESENT), WORD, or there are 60.");
    refused("a 61st NOTE", FULL, x -> x.note(0, 1, 1), NONE);
    refused("a 61st NOTE home", FULL, x -> x.note(0, 0, 1), NONE);
  }

  private static void noteNoSuch() {
    sentence("NONE: no such STATES (PRESENT), WORD,");
    for (int word : outside(1, 99)) {
      refused("note(0, 1, " + word + ")", RICH, x -> x.note(0, 1, word), NONE);
      refused("note(0, 0, " + word + ")", RICH, x -> x.note(0, 0, word), NONE);
    }
    for (int state : noSuch(4)) {
      refused("note(" + state + ", 0, 1)", RICH, x -> x.note(state, 0, 1), NONE);
      refused("note(0, " + state + ", 1)", RICH, x -> x.note(0, state, 1), NONE);
      refused("note(" + state + ", home, 1)", RICH, x -> x.note(state, state, 1), NONE);
    }
    refused("from one that left", RICH, x -> x.note(3, 0, 1), NONE);
    refused("to one that left", RICH, x -> x.note(0, 3, 1), NONE);
    refused("home of one that left", RICH, x -> x.note(3, 3, 1), NONE);
    due("WORD 1", RICH.get().note(0, 1, 1), 9);
    due("WORD 99", RICH.get().note(2, 2, 99), 9);
  }

  private static void spyStates() {
    sentence("A SPY: true; false: no such STATES, both the same,");
    for (int state : noSuch(4)) {
      refused("spy(" + state + ", 0, ..)", RICH, x -> x.spy(state, 0, 2, 9) ? 1 : 0, 0);
      refused("spy(0, " + state + ", ..)", RICH, x -> x.spy(0, state, 2, 9) ? 1 : 0, 0);
      refused("spy(both none)", RICH, x -> x.spy(state, state, 2, 9) ? 1 : 0, 0);
    }
    for (int state = 0; state < 4; state++) {
      int s = state;
      refused("spy on itself", RICH, x -> x.spy(s, s, 2, 9) ? 1 : 0, 0);
    }
    yes("of one that left", RICH.get().spy(3, 0, 2, 9));
    yes("on one that left", RICH.get().spy(0, 3, 2, 9));
  }

  private static void spyDays() {
    sentence("DAYS (TODAY at least, from not behind to, 300 at most),");
    int[][] not = {{1, 9}, {0, 0}, {1, 1}, {-1, 9}, {LOW, 9}, {LOW, HIGH}, {3, 2}, {300, 299},
        {HIGH, 2}, {2, 301}, {301, 301}, {301, 300}, {2, HIGH}, {HIGH, HIGH}, {9, LOW}, {9, -1}};
    for (int[] d : not) {
      refused("spy " + d[0] + " to " + d[1], RICH, x -> x.spy(0, 1, d[0], d[1]) ? 1 : 0, 0);
    }
    int[][] may = {{2, 2}, {2, 300}, {300, 300}, {3, 4}, {299, 300}};
    for (int[] d : may) {
      yes("spy " + d[0] + " to " + d[1], RICH.get().spy(0, 1, d[0], d[1]));
    }
    PowersHouse x = house(0, 2);
    yes("from DAY 0", x.spy(0, 1, 0, 0));
    passDays(x, 300);
    no("before TODAY", x.spy(0, 1, 299, 300));
    yes("on DAY 300", x.spy(0, 1, 300, 300));
  }

  private static void spiesFull() {
    sentence("or there are 20 SPIES.");
    refused("a 21st SPY", FULL, x -> x.spy(0, 1, 0, 300) ? 1 : 0, 0);
    PowersHouse x = house(0, 6);
    for (int k = 0; k < 19; k++) {
      yes("spy " + k, x.spy(k % 5, 5, 300, 300));
      due("SPIES", x.count(6), k + 1);
    }
    yes("the 20th", x.spy(4, 0, 0, 0));
    no("a 21st", x.spy(3, 0, 0, 0));
    due("SPIES", x.count(6), 20);
    x.note(0, 0, 7);
    x.days(1);
    due("the 20th opens", x.known(0, 4), 1);
    due("the 21st doesn't", x.known(0, 3), NONE);
  }

  private static void todayAtMost() {
    sentence("TODAY: DAY 0 at first, 300 at most.");
    PowersHouse x = house(1, 2);
    due("DAY 0", x.count(4), 0);
    for (int k = 1; k <= 6; k++) {
      due("fifty", x.days(50), 50 * k);
    }
    due("one more", x.days(1), NONE);
    due("fifty more", x.days(50), NONE);
    due("TODAY", x.count(4), 300);
    due("on DAY 300", x.note(0, 0, 1), 0);
    due("told on DAY 300", x.paper(0, 1), 300);
    due("known on DAY 300", x.known(0, 0), 300);
  }

  private static void daysNumber() {
    sentence("So many DAYS go by (1 .. 50): TODAY; NONE, and nothing happens: no such number,");
    for (int n : outside(1, 50)) {
      refused("days(" + n + ")", RICH, x -> x.days(n), NONE);
    }
    due("days(1)", RICH.get().days(1), 3);
    due("days(50)", RICH.get().days(50), 52);
  }

  private static void daysBeyond() {
    sentence("no such number, or beyond 300.");
    for (int today = 250; today <= 300; today += 10) {
      PowersHouse x = house(1, 2);
      x.offer(0, 1, 1, 0, today, NONE);
      passDays(x, today);
      int left = 300 - today;
      if (left < 50) {
        due("a DAY beyond", x.days(left + 1), NONE);
        due("fifty", x.days(50), NONE);
        due("nothing happens", x.count(4), today);
        due("nothing happens", x.paper(0, 2), PENDING);
      }
      due("till 300", x.days(left), left == 0 ? NONE : 300);
    }
  }

  // ---------------------------------------------------------------- a DAY goes by

  /**
   * Seven LANDS that 0 holds, and 1 and 2 answer by their WORTH: 1 refused, 2 asked (home: no), 3
   * taken, 4 taken from DAY 3 on, 5 asked (home: yes), else no line. HOME is 2.
   */
  private static PowersHouse answering() {
    PowersHouse x = new PowersHouse();
    for (int s = 0; s < 3; s++) {
      x.state(s, 2);
    }
    int[] worth = {3, 3, 1, 0, 2, 4, 5};
    for (int l = 0; l < 7; l++) {
      x.land(1);
      x.hold(l, 0);
      for (int s = 0; s < 3; s++) {
        x.worth(s, l, worth[l]);
      }
    }
    String text = "refuse got=1; ask got=2; take got=3; take got=4 and day>=3; ask got=5;"
        + "home got=5;";
    told(x, 1, text);
    told(x, 2, text);
    return x;
  }

  /** 0 gives one LAND of answering() to 1 till DAY 20. */
  private static int gift(PowersHouse x, int land, int links) {
    return x.offer(0, 1, 1 << land, 0, 20, links);
  }

  private static void lapsed() {
    sentence("It is LAPSED if TODAY is behind its last DAY,");
    PowersHouse x = answering();
    x.offer(0, 1, 1, 0, 0, NONE);
    x.offer(0, 1, 2, 0, 1, NONE);
    x.offer(0, 1, 8, 0, 1, NONE);
    x.offer(0, 1, 32, 0, 2, NONE);
    x.days(1);
    due("behind its last DAY, though a line holds", x.paper(0, 2), LAPSED);
    due("on its last DAY", x.paper(1, 2), BOUND);
    due("on its last DAY without a line", x.paper(2, 2), PENDING);
    x.days(1);
    due("the DAY behind", x.paper(2, 2), LAPSED);
    due("on its last DAY", x.paper(3, 2), PENDING);
    x.days(1);
    due("its line would hold on the DAY behind", x.paper(3, 2), LAPSED);
    due("no line of what is LAPSED", x.paper(3, 3), NONE);
    due("BOUND stays", x.paper(1, 2), BOUND);
    // What is TAKEN waits for its CHAIN, behind its last DAY, too.
    x = answering();
    x.offer(0, 1, 1, 0, 1, NONE);
    gift(x, 5, 0);
    x.days(2);
    due("TAKEN", x.paper(0, 2), TAKEN);
    x.days(1);
    due("BOUND", x.paper(0, 2), BOUND);
  }

  private static void lapsedByLeaving() {
    sentence("or one of both STATES isn't PRESENT.");
    for (int gone = 0; gone < 2; gone++) {
      PowersHouse x = answering();
      gift(x, 0, NONE);
      x.offer(0, 2, 2, 0, 20, NONE);
      x.leave(gone);
      x.days(1);
      due("LAPSED", x.paper(0, 2), LAPSED);
      due("HOLDER", x.look(0, 1), 0);
      due("of the others", x.paper(1, 2), gone == 0 ? LAPSED : BOUND);
    }
  }

  private static void firstLineThatHolds() {
    sentence("of the ORDERS of the STATE to which it goes the first line of take, refuse, ask that "
        + "holds");
    int[] want = {BOUND, REFUSED, REFUSED, BOUND};
    int[] line = {1, 2, 3, 1};
    String[] texts = {"home 1; take 1; refuse 1; ask 1;", "home 1; take 0; refuse 1; ask 1;",
        "home 0; take 0; refuse 1/0; ask 1;", "refuse 0; take 1;"};
    for (int k = 0; k < texts.length; k++) {
      PowersHouse x = house(1, 2);
      x.hold(0, 0);
      told(x, 1, texts[k]);
      x.offer(0, 1, 1, 0, 9, NONE);
      x.days(1);
      due(texts[k], x.paper(0, 2), want[k]);
      due(texts[k], x.paper(0, 3), line[k]);
    }
  }

  private static void staysWithoutLine() {
    sentence("without such a line it stays.");
    for (String text : new String[] {"", "home 1;", "take 0;", "take 1/0; refuse 0; ask 0; home 1;"}) {
      PowersHouse x = house(1, 2);
      x.hold(0, 0);
      told(x, 1, text);
      x.offer(0, 1, 1, 0, 300, NONE);
      passDays(x, 300);
      due("[" + text + "] on DAY 300", x.paper(0, 2), PENDING);
      due("[" + text + "] no line", x.paper(0, 3), NONE);
      due("[" + text + "] no answer", x.paper(0, 6), NONE);
    }
  }

  private static void answerDay() {
    sentence("(the answer comes HOME and HOME DAYS later)");
    for (int home = 0; home <= 9; home++) {
      PowersHouse x = new PowersHouse();
      x.land(1);
      x.state(0, 3);
      x.state(0, home);
      x.hold(0, 0);
      told(x, 1, "ask 1; home 1;");
      x.offer(0, 1, 1, 0, 300, NONE);
      x.days(1);
      due("the DAY of the answer", x.paper(0, 6), 1 + 2 * home);
      if (home > 0) {
        due("ASKED", x.paper(0, 2), ASKED);
        if (home > 1) {
          x.days(2 * home - 2);
        }
        x.days(1);
        due("a DAY before the answer", x.paper(0, 2), ASKED);
        due("the line of ask", x.paper(0, 3), 0);
        x.days(1);
      }
      due("on the answer's DAY", x.paper(0, 2), BOUND);
      due("the line of home", x.paper(0, 3), 1);
      due("on that DAY", x.way(0, 1, 1), 1 + 2 * home);
    }
  }

  private static void answerNow() {
    sentence("If it is ASKED (now, too) and the answer's DAY has come:");
    PowersHouse x = house(1, 2);
    x.hold(0, 0);
    told(x, 1, "ask 1; home day=1;");
    x.offer(0, 1, 1, 0, 9, NONE);
    x.days(1);
    due("ASKED and TAKEN on one DAY", x.paper(0, 2), BOUND);
    due("the answer's DAY", x.paper(0, 6), 1);
    due("the line of home", x.paper(0, 3), 1);
  }

  private static void answerRefused() {
    sentence("TAKEN if a home line holds, else REFUSED.");
    String[] no = {"", "home 0;", "home 1/0; home 0;", "take 1; refuse 0;"};
    for (String home : no) {
      PowersHouse x = house(1, 2);
      x.hold(0, 0);
      told(x, 1, "ask 1;" + home);
      x.offer(0, 1, 1, 0, 9, NONE);
      x.days(1);
      due("[" + home + "]", x.paper(0, 2), REFUSED);
      due("[" + home + "] the line by which it was ASKED", x.paper(0, 3), 0);
    }
    PowersHouse x = house(1, 2);
    x.hold(0, 0);
    told(x, 1, "home 0; ask 1; home 1/0; home 5; home 1;");
    x.offer(0, 1, 1, 0, 9, NONE);
    x.days(1);
    due("the first home line that holds", x.paper(0, 3), 3);
  }

  private static void answerBehindLastDay() {
    sentence("It is LAPSED if TODAY is behind its last DAY, or one of both STATES isn't PRESENT. "
        + "Else, if it is PENDING:");
    PowersHouse x = answering();
    x.offer(0, 1, 64, 0, 4, NONE);
    x.offer(0, 2, 64, 0, 5, NONE);
    x.days(4);
    due("ASKED on its last DAY", x.paper(0, 2), ASKED);
    x.days(1);
    due("LAPSED, as the answer comes behind it", x.paper(0, 2), LAPSED);
    due("the answer's DAY stays", x.paper(0, 6), 5);
    due("answered on its last DAY", x.paper(1, 2), BOUND);
  }

  // ---------------------------------------------------------------- CHAINS

  private static void chainBroken() {
    sentence("If one of the CHAIN is REFUSED, LAPSED or VOID,");
    PowersHouse x = answering();
    gift(x, 0, NONE);
    gift(x, 2, 0);
    x.days(1);
    due("the later one is REFUSED", x.paper(1, 2), REFUSED);
    due("by REFUSED", x.paper(0, 2), VOID);
    x = answering();
    gift(x, 2, NONE);
    gift(x, 0, 0);
    x.days(1);
    due("the former one is REFUSED", x.paper(0, 2), REFUSED);
    due("by REFUSED", x.paper(1, 2), VOID);
    x = answering();
    x.offer(0, 1, 8, 0, 1, NONE);
    gift(x, 0, 0);
    x.days(1);
    due("TAKEN", x.paper(1, 2), TAKEN);
    x.days(1);
    due("LAPSED", x.paper(0, 2), LAPSED);
    due("by LAPSED", x.paper(1, 2), VOID);
    // VOID alone: 1 has nothing to give, so that PAPER 0 can't be carried out.
    x = answering();
    told(x, 0, "take 1;");
    x.offer(1, 0, 1, 0, 20, NONE);
    x.days(1);
    due("VOID", x.paper(0, 2), VOID);
    gift(x, 0, 0);
    gift(x, 1, NONE);
    x.days(1);
    due("by VOID", x.paper(1, 2), VOID);
    due("of no CHAIN", x.paper(2, 2), BOUND);
    due("nothing moves", x.look(0, 1), 0);
    // By none of these: what is BOUND doesn't break a CHAIN.
    gift(x, 0, 2);
    x.days(1);
    due("LINKED to a BOUND one", x.paper(3, 2), BOUND);
    // Without one that is TAKEN nothing is looked at.
    x = answering();
    gift(x, 2, NONE);
    gift(x, 3, 0);
    x.days(1);
    due("PENDING stays", x.paper(1, 2), PENDING);
  }

  private static void chainBrokenEndsAll() {
    sentence("all of it that are PENDING, ASKED or TAKEN are VOID.");
    PowersHouse x = answering();
    gift(x, 1, NONE);
    x.days(1);
    gift(x, 0, 0);
    gift(x, 3, 1);
    gift(x, 4, 2);
    gift(x, 2, 0);
    gift(x, 3, NONE);
    x.days(1);
    due("BOUND stays", x.paper(0, 2), BOUND);
    due("TAKEN", x.paper(1, 2), VOID);
    due("PENDING", x.paper(2, 2), VOID);
    due("ASKED", x.paper(3, 2), VOID);
    due("REFUSED stays", x.paper(4, 2), REFUSED);
    due("not of it", x.paper(5, 2), PENDING);
    x.days(4);
    due("no answer comes for what is VOID", x.paper(3, 2), VOID);
    // The longest one: 59 that wait, and the last one is REFUSED.
    x = answering();
    gift(x, 0, NONE);
    for (int p = 1; p < 59; p++) {
      gift(x, 3, p - 1);
    }
    due("the last one", gift(x, 2, 58), 59);
    x.days(1);
    due("REFUSED", x.paper(59, 2), REFUSED);
    for (int p = 0; p < 59; p++) {
      due("PAPER " + p, x.paper(p, 2), VOID);
    }
    // All hang on the first one.
    x = answering();
    gift(x, 3, NONE);
    for (int p = 1; p < 58; p++) {
      gift(x, 3, 0);
    }
    gift(x, 2, 0);
    gift(x, 0, 0);
    x.days(1);
    for (int p = 0; p < 60; p++) {
      due("PAPER " + p, x.paper(p, 2), p == 58 ? REFUSED : VOID);
    }
  }

  private static void chainWaits() {
    sentence("Else, if none of it is PENDING or ASKED:");
    PowersHouse x = answering();
    gift(x, 0, NONE);
    gift(x, 5, 0);
    x.days(2);
    due("TAKEN waits for PENDING", x.paper(0, 2), TAKEN);
    due("nothing moves", x.look(0, 1), 0);
    x.days(1);
    due("then BOUND", x.paper(0, 2), BOUND);
    due("then BOUND", x.paper(1, 2), BOUND);
    x = answering();
    gift(x, 6, NONE);
    gift(x, 0, 0);
    x.days(4);
    due("TAKEN waits for ASKED", x.paper(1, 2), TAKEN);
    x.days(1);
    due("then BOUND", x.paper(0, 2), BOUND);
    due("then BOUND", x.paper(1, 2), BOUND);
    due("on DAY 5", x.way(0, 1, 1), 5);
    x = answering();
    gift(x, 4, NONE);
    gift(x, 0, 0);
    x.days(4);
    due("TAKEN waits for ASKED", x.paper(1, 2), TAKEN);
    x.days(1);
    due("REFUSED from home", x.paper(0, 2), REFUSED);
    due("then VOID", x.paper(1, 2), VOID);
    // One that is told later and LINKED makes it wait, too.
    x = answering();
    gift(x, 0, NONE);
    gift(x, 5, 0);
    x.days(2);
    gift(x, 3, 1);
    x.days(1);
    due("TAKEN", x.paper(0, 2), TAKEN);
    due("TAKEN", x.paper(1, 2), TAKEN);
    due("PENDING", x.paper(2, 2), PENDING);
  }

  private static void chainCarriedOut() {
    sentence("they are BOUND, and those LANDS have new HOLDERS;");
    PowersHouse x = answering();
    told(x, 0, "take 1;");
    x.hold(1, 1);
    x.hold(2, 2);
    // In a ring: 0 gives LAND 0 to 1, 1 gives LAND 1 to 2, 2 gives LAND 2 to 0.
    x.worth(1, 0, 3);
    x.worth(2, 1, 3);
    x.offer(0, 1, 1, 0, 20, NONE);
    x.offer(1, 2, 2, 0, 20, 0);
    x.offer(2, 0, 4, 0, 20, 1);
    x.days(1);
    for (int l = 0; l < 3; l++) {
      due("BOUND", x.paper(l, 2), BOUND);
      due("HOLDER", x.look(l, 1), (l + 1) % 3);
      due("by PAPER " + l, x.way(l, l == 0 ? 1 : 2, 2), l);
      due("on DAY 1", x.way(l, l == 0 ? 1 : 2, 1), 1);
    }
    // All that one OFFER can have: twelve LANDS.
    x = house(12, 2);
    told(x, 1, "take 1;");
    for (int l = 0; l < 12; l++) {
      x.hold(l, l % 2);
    }
    x.offer(0, 1, 0x555, 0xaaa, 9, NONE);
    x.days(1);
    due("BOUND", x.paper(0, 2), BOUND);
    for (int l = 0; l < 12; l++) {
      due("HOLDER of " + l, x.look(l, 1), 1 - l % 2);
    }
  }

  private static void chainNotHeld() {
    sentence("if each LAND that is to be given is held by who gives it,");
    for (int holder = NONE; holder < 3; holder++) {
      PowersHouse x = answering();
      x.hold(3, holder);
      x.offer(0, 1, 9, 0, 20, NONE);
      x.days(1);
      due("given, held by " + holder, x.paper(0, 2), holder == 0 ? BOUND : VOID);
      due("LAND 0", x.look(0, 1), holder == 0 ? 1 : 0);
      due("LAND 3", x.look(3, 1), holder == 0 ? 1 : holder);
      x = answering();
      x.hold(3, holder);
      x.offer(0, 1, 1, 8, 20, NONE);
      x.days(1);
      due("taken, held by " + holder, x.paper(0, 2), holder == 1 ? BOUND : VOID);
      due("LAND 0", x.look(0, 1), holder == 1 ? 1 : 0);
      due("LAND 3", x.look(3, 1), holder == 1 ? 0 : holder);
    }
    // One that can't be makes all others of its CHAIN VOID.
    PowersHouse x = answering();
    x.hold(3, 2);
    gift(x, 0, NONE);
    x.offer(0, 1, 2, 8, 20, 0);
    gift(x, 1, NONE);
    x.days(1);
    due("VOID", x.paper(0, 2), VOID);
    due("VOID", x.paper(1, 2), VOID);
    due("not of it", x.paper(2, 2), BOUND);
    // What one only gets by the same CHAIN it doesn't hold yet.
    x = answering();
    x.offer(0, 1, 1, 0, 20, NONE);
    x.offer(1, 2, 1, 0, 20, 0);
    x.days(1);
    due("VOID", x.paper(0, 2), VOID);
    due("VOID", x.paper(1, 2), VOID);
    due("HOLDER", x.look(0, 1), 0);
    // By a former CHAIN of the same DAY it does.
    x.offer(0, 1, 1, 0, 20, NONE);
    x.offer(1, 2, 1, 0, 20, NONE);
    x.days(1);
    due("BOUND", x.paper(2, 2), BOUND);
    due("BOUND", x.paper(3, 2), BOUND);
    due("HOLDER", x.look(0, 1), 2);
  }

  private static void chainByTwo() {
    sentence("and none by two of them, they are BOUND, and those LANDS have new HOLDERS; else these "
        + "are VOID.");
    PowersHouse x = answering();
    gift(x, 0, NONE);
    x.offer(0, 2, 1, 0, 20, 0);
    x.days(1);
    due("by two OFFERS to two STATES", x.paper(0, 2), VOID);
    due("by two OFFERS to two STATES", x.paper(1, 2), VOID);
    due("HOLDER", x.look(0, 1), 0);
    due("no WAY", x.way(0, 1, 0), NO_SUCH);
    // One gives it, of the other one it is taken: it is 0 that would give it twice.
    x = answering();
    told(x, 0, "take 1;");
    gift(x, 0, NONE);
    x.offer(1, 0, 0, 1, 20, 0);
    x.days(1);
    due("given and taken", x.paper(0, 2), VOID);
    due("given and taken", x.paper(1, 2), VOID);
    // Not in one CHAIN: the first is carried out.
    x = answering();
    gift(x, 0, NONE);
    x.offer(0, 2, 1, 0, 20, NONE);
    x.days(1);
    due("the first", x.paper(0, 2), BOUND);
    due("the second", x.paper(1, 2), VOID);
    due("HOLDER", x.look(0, 1), 1);
    // What a BOUND one of the CHAIN gave counts no more.
    x = answering();
    told(x, 0, "take 1;");
    gift(x, 0, NONE);
    x.days(1);
    x.offer(1, 0, 1, 0, 20, 0);
    x.days(1);
    due("given back", x.paper(1, 2), BOUND);
    due("HOLDER", x.look(0, 1), 0);
  }

  private static void chainOfAll() {
    sentence("its CHAIN: it, and the one to which it is LINKED, and so on, and all OFFERS LINKED to "
        + "one of the CHAIN (as long as there are more).");
    // Twelve LANDS by twelve OFFERS that hang on one another, the last one from DAY 3 on.
    for (int shape = 0; shape < 3; shape++) {
      PowersHouse x = house(12, 2);
      told(x, 1, "take day>=3 or souls<120;");
      for (int l = 0; l < 12; l++) {
        x.hold(l, 0);
        int links = l == 0 ? NONE : shape == 0 ? l - 1 : shape == 1 ? 0 : (l - 1) / 2;
        x.offer(0, 1, 1 << l, 0, 20, links);
      }
      x.days(2);
      for (int l = 0; l < 12; l++) {
        due("OFFER " + l, x.paper(l, 2), l == 11 ? PENDING : TAKEN);
      }
      x.days(1);
      for (int l = 0; l < 12; l++) {
        due("OFFER " + l, x.paper(l, 2), BOUND);
        due("on DAY 3", x.way(l, 1, 1), 3);
      }
    }
  }

  // ---------------------------------------------------------------- KNOWN

  private static void knownToBoth() {
    sentence("an OFFER to both of its STATES, from the DAY on which it was told;");
    PowersHouse x = house(1, 3);
    yes("spies", x.spy(2, 0, 0, 300));
    due("on DAY 0", x.offer(0, 1, 1, 0, 9, NONE), 0);
    due("to another STATE", x.note(0, 1, 5), 1);
    for (int p = 0; p < 2; p++) {
      due("from DAY 0", x.known(p, 0), 0);
      due("from DAY 0", x.known(p, 1), 0);
    }
    passDays(x, 300);
    due("on DAY 300", x.offer(0, 1, 1, 0, 300, NONE), 2);
    due("from DAY 300", x.known(2, 0), 300);
    due("from DAY 300", x.known(2, 1), 300);
    for (int p = 0; p < 3; p++) {
      due("never to a third, whoever opens", x.known(p, 2), NONE);
    }
  }

  private static void knownHome() {
    sentence("a NOTE home: to the sender, and to each STATE that OPENS:");
    PowersHouse x = house(0, 6);
    for (int s = 1; s < 6; s++) {
      x.spy(s, 0, 0, 300);
      x.spy(s, 0, 0, 300);
    }
    x.note(0, 0, 9);
    due("to the sender", x.known(0, 0), 0);
    x.days(1);
    for (int s = 1; s < 6; s++) {
      due("to each that opens", x.known(0, s), 1);
      due("once, by two SPIES", x.heard(s, 1, 9), 1);
    }
    x.note(1, 1, 9);
    x.days(1);
    for (int s = 0; s < 6; s++) {
      due("of another one", x.known(1, s), s == 1 ? 1 : NONE);
    }
  }

  private static void knownToOneThatOpens() {
    sentence("SPIES: a STATE opens what another one sends home");
    for (int spy = 0; spy < 6; spy++) {
      for (int on = 0; on < 6; on++) {
        PowersHouse x = house(0, 6);
        boolean may = x.spy(spy, on, 0, 0);
        for (int s = 0; s < 6; s++) {
          x.note(s, s, 9);
          x.note(s, (s + 1) % 6, 9);
        }
        x.days(1);
        for (int s = 0; s < 6; s++) {
          due(spy + " on " + on + ": home of " + s, x.known(2 * s, spy),
              s == spy ? 0 : may && s == on ? 1 : NONE);
          due(spy + " on " + on + ": " + s + " to the next", x.known(2 * s + 1, spy),
              s == spy || (s + 1) % 6 == spy ? 0 : NONE);
        }
      }
    }
  }

  private static void spyBothDays() {
    sentence("a STATE opens what another one sends home from a DAY to a DAY (both with it)");
    PowersHouse x = house(0, 3);
    x.spy(1, 0, 3, 5);
    x.spy(2, 0, 4, 4);
    for (int day = 0; day < 8; day++) {
      due("on DAY " + day, x.note(0, 0, 9), day);
      x.days(1);
    }
    for (int day = 0; day < 8; day++) {
      due("DAYS 3 to 5: " + day, x.known(day, 1), day >= 3 && day <= 5 ? day + 1 : NONE);
      due("DAY 4: " + day, x.known(day, 2), day == 4 ? 5 : NONE);
    }
  }

  private static void spyDayBehind() {
    sentence("it is KNOWN to it the DAY behind (if it has left, too).");
    PowersHouse x = house(0, 3);
    x.spy(1, 0, 0, 300);
    x.spy(2, 0, 0, 300);
    x.leave(2);
    x.note(0, 0, 9);
    due("not on the DAY itself", x.known(0, 1), NONE);
    due("not on the DAY itself", x.heard(1, 0, 9), 0);
    x.leave(1);
    x.days(1);
    due("it left behind that", x.known(0, 1), 1);
    due("it left before that", x.known(0, 2), 1);
    due("heard on the DAY behind", x.heard(1, 1, 9), 1);
    due("not heard by the DAY before", x.heard(1, 0, 9), 0);
    passDays(x, 298);
    x.note(0, 0, 8);
    x.days(1);
    due("sent on DAY 299", x.known(1, 1), 300);
    x.note(0, 0, 8);
    due("sent on DAY 300: no DAY is behind", x.known(2, 1), NONE);
    due("sent on DAY 300: no DAY is behind", x.heard(1, 300, 8), 1);
  }

  private static void spyToldLater() {
    sentence("SPIES told later open nothing that was sent.");
    PowersHouse x = house(0, 2);
    x.note(0, 0, 9);
    yes("on the same DAY", x.spy(1, 0, 0, 9));
    x.note(0, 0, 9);
    x.days(1);
    due("sent before the SPY was told", x.known(0, 1), NONE);
    due("sent behind that", x.known(1, 1), 1);
    due("heard", x.heard(1, 1, 9), 1);
  }

  // ---------------------------------------------------------------- promises 16, 19, 20 and 35

  private static void paperWhats() {
    sentence("2: 0 PENDING, 1 ASKED, 2 TAKEN, 3 REFUSED, 4 LAPSED, 5 BOUND, 6 VOID (NONE of a NOTE)");
    PowersHouse x = answering();
    gift(x, 3, NONE);
    gift(x, 4, NONE);
    gift(x, 1, 0);
    gift(x, 2, NONE);
    x.offer(0, 1, 8, 0, 0, NONE);
    gift(x, 0, NONE);
    gift(x, 0, 3);
    x.note(0, 1, 1);
    x.days(1);
    for (int p = 0; p < 7; p++) {
      due("PAPER " + p, x.paper(p, 2), p);
      due("an OFFER", x.paper(p, 0), 0);
    }
    due("a NOTE", x.paper(7, 0), 1);
    due("a NOTE", x.paper(7, 2), NONE);
    due("told on DAY 0", x.paper(7, 1), 0);
    due("from 0", x.paper(7, 4), 0);
    due("to 1", x.paper(7, 5), 1);
  }

  private static void paperLines() {
    sentence("3: the line of the ORDERS by which it was TAKEN, REFUSED or ASKED (of home, by which "
        + "it was TAKEN then; NONE)");
    PowersHouse x = answering();
    int[] line = {2, 2, 0, NONE, 1, NONE, 4};
    for (int l = 0; l < 7; l++) {
      gift(x, l, NONE);
      due("no line yet", x.paper(l, 3), NONE);
    }
    x.note(0, 1, 1);
    x.days(1);
    for (int l = 0; l < 7; l++) {
      due("LAND " + l, x.paper(l, 3), line[l]);
    }
    due("a NOTE", x.paper(7, 3), NONE);
    x.days(4);
    due("LAND 4: REFUSED from home, by no line", x.paper(4, 3), 1);
    due("LAND 5", x.paper(5, 3), 3);
    due("LAND 6: a home line", x.paper(6, 3), 5);
    told(x, 1, "take 1;");
    due("by other ORDERS", x.paper(6, 3), 5);
    sentence("6: the DAY of the answer (NONE).");
    int[] answer = {NONE, NONE, NONE, NONE, 5, NONE, 5};
    for (int l = 0; l < 7; l++) {
      due("LAND " + l, x.paper(l, 6), answer[l]);
    }
    due("a NOTE", x.paper(7, 6), NONE);
  }

  private static void paperNoSuch() {
    sentence("-2: no such PAPER, what.");
    for (int p : noSuch(9)) {
      for (int what = 0; what < 7; what++) {
        int w = what;
        refused("paper(" + p + ", " + what + ")", RICH, x -> x.paper(p, w), NO_SUCH);
      }
    }
    for (int what : noSuch(7)) {
      refused("paper(0, " + what + ")", RICH, x -> x.paper(0, what), NO_SUCH);
      refused("paper(5, " + what + ") of a NOTE", RICH, x -> x.paper(5, what), NO_SUCH);
    }
    for (int p : noSuch(60)) {
      refused("paper(" + p + ", 0) of 60", FULL, x -> x.paper(p, 0), NO_SUCH);
    }
  }

  private static void knownNone() {
    sentence("NONE: it isn't (by TODAY), or no such ones.");
    for (int p : noSuch(9)) {
      refused("known(" + p + ", 0)", RICH, x -> x.known(p, 0), NONE);
    }
    for (int state : noSuch(4)) {
      for (int p = 0; p < 9; p++) {
        int paper = p;
        refused("known(" + p + ", " + state + ")", RICH, x -> x.known(paper, state), NONE);
      }
    }
    PowersHouse x = house(0, 3);
    x.spy(1, 0, 0, 0);
    x.note(0, 0, 1);
    due("to come", x.known(0, 1), NONE);
    due("never", x.known(0, 2), NONE);
    x.days(1);
    due("by TODAY", x.known(0, 1), 1);
    due("never", x.known(0, 2), NONE);
  }

  private static void heardNone() {
    sentence("NONE: no such STATE, DAY (not behind TODAY), WORD.");
    for (int state : noSuch(4)) {
      refused("heard(" + state + ", 0, 7)", RICH, x -> x.heard(state, 0, 7), NONE);
    }
    for (int day : outside(0, 2)) {
      refused("heard(0, " + day + ", 7)", RICH, x -> x.heard(0, day, 7), NONE);
    }
    for (int word : outside(1, 99)) {
      refused("heard(0, 2, " + word + ")", RICH, x -> x.heard(0, 2, word), NONE);
    }
    PowersHouse x = house(0, 1);
    due("WORD 1 on DAY 0", x.heard(0, 0, 1), 0);
    due("WORD 99 on DAY 0", x.heard(0, 0, 99), 0);
    due("DAY 1 is behind TODAY", x.heard(0, 1, 1), NONE);
    passDays(x, 300);
    due("DAY 300", x.heard(0, 300, 1), 0);
    due("DAY 301", x.heard(0, 301, 1), NONE);
    x.leave(0);
    due("a STATE that left is one", x.heard(0, 300, 1), 0);
  }

  private static void heardByDay() {
    sentence("How many NOTES a STATE knows by a DAY of which the WORD is this;");
    PowersHouse x = house(1, 3);
    x.offer(0, 1, 1, 0, 300, NONE);
    for (int k = 0; k < 58; k++) {
      x.note(0, 1, k % 2 == 0 ? 1 : 99);
    }
    x.days(1);
    x.note(1, 1, 1);
    due("WORD 1 by DAY 0", x.heard(1, 0, 1), 29);
    due("WORD 1 by DAY 1", x.heard(1, 1, 1), 30);
    due("WORD 99", x.heard(1, 1, 99), 29);
    due("WORD 2", x.heard(1, 1, 2), 0);
    due("the sender of 58", x.heard(0, 1, 1), 29);
    due("a third", x.heard(2, 1, 1), 0);
  }

  private static void leaveLapses() {
    sentence("its OFFERS that are PENDING, ASKED or TAKEN are LAPSED. (What is BOUND stays.)");
    for (int gone = 0; gone < 3; gone++) {
      PowersHouse x = answering();
      gift(x, 3, NONE);
      gift(x, 4, NONE);
      gift(x, 1, 0);
      gift(x, 2, NONE);
      x.offer(0, 1, 8, 0, 0, NONE);
      gift(x, 0, NONE);
      gift(x, 0, 3);
      x.note(0, 1, 1);
      x.days(1);
      due("how many of PAPERS 0 to 6", x.leave(gone), gone == 2 ? 0 : 3);
      int[] want = gone == 2 ? new int[] {0, 1, 2, 3, 4, 5, 6} : new int[] {4, 4, 4, 3, 4, 5, 6};
      for (int p = 0; p < 7; p++) {
        due("PAPER " + p, x.paper(p, 2), want[p]);
      }
      due("a NOTE", x.paper(7, 2), NONE);
      due("what is BOUND stays", x.look(0, 1), 1);
      due("PRESENT no more", x.count(2), 7 & ~(1 << gone));
    }
    PowersHouse x = house(1, 2);
    for (int k = 0; k < 60; k++) {
      x.offer(k % 2, 1 - k % 2, 1, 0, 9, NONE);
    }
    due("all sixty", x.leave(1), 60);
  }

  private static void leaveNoSuch() {
    sentence("A STATE leaves: how many OFFERS are LAPSED by it; NONE: no such STATE (PRESENT).");
    for (int state : noSuch(4)) {
      refused("leave(" + state + ")", RICH, x -> x.leave(state), NONE);
    }
    refused("one that left", RICH, x -> x.leave(3), NONE);
    PowersHouse x = house(0, 1);
    due("0 isn't NONE", x.leave(0), 0);
    due("again", x.leave(0), NONE);
  }
}
