/**
 * For each sentence on LANDS, STATES and WAYS (terms 1 and 6; promises 5 to 11, 21 and 36 to 38)
 * that names a boundary case, a test of its own.
 */
public final class BoundaryRealmTest extends Checks {
  public static void main(String[] args) {
    lastLand();
    lastState();
    landSouls();
    landsFull();
    noHolderAtFirst();
    rankAndHome();
    worthAtFirst();
    boundAtFirst();
    presentTillItLeaves();
    hasOfAll();
    nearNoSuch();
    nearTheSame();
    nearAlready();
    stateNoSuch();
    statesFull();
    holdFromToday();
    holdNone();
    holdNoSuch();
    holdAgain();
    holdWayOfTwenty();
    claimNoSuch();
    claimIsSo();
    claimThree();
    worthNoSuch();
    boundNoSuch();
    hasNoSuch();
    wayBeginsWithTheFirst();
    wayFromZeroOn();
    wayNone();
    wayNoSuch();
    lookValues();
    lookNoLand();
    lookNoWhat();
    countAnotherWhat();
    countHeldSouls();
    end();
  }

  // ---------------------------------------------------------------- terms 1

  private static void lastLand() {
    sentence("LANDS, at most 12, numbered from 0 on");
    PowersHouse x = new PowersHouse();
    for (int k = 0; k < 12; k++) {
      due("LAND " + k, x.land(k + 1), k);
      due("LANDS", x.count(0), k + 1);
    }
    due("a 13th", x.land(1), NONE);
    due("LANDS", x.count(0), 12);
    x.state(0, 0);
    x.state(0, 0);
    // The twelfth is one as the first.
    yes("near", x.near(11, 0));
    no("near", x.near(0, 11));
    yes("hold", x.hold(11, 1));
    yes("claim", x.claim(11, 0, true));
    yes("claim", x.claim(11, 1, true));
    yes("worth", x.worth(1, 11, 9));
    yes("worth", x.worth(0, 11, 8));
    due("has", x.has(1), 9);
    due("DISPUTED", x.settle(0), 1);
    due("best", x.best(11), 1);
    due("SOULS", x.look(11, 0), 12);
    due("HOLDER", x.look(11, 1), 1);
    due("CLAIMS", x.look(11, 2), 3);
    due("WAY", x.way(11, 0, 0), 1);
    told(x, 0, "take 1;");
    due("offer", x.offer(1, 0, 2048, 0, 9, NONE), 0);
    x.days(1);
    due("its new HOLDER", x.look(11, 1), 0);
    due("WAY", x.way(11, 1, 2), 0);
    for (int land : noSuch(12)) {
      due("no LAND " + land, x.way(land, 0, 0), NO_SUCH);
    }
  }

  private static void lastState() {
    sentence("STATES, at most 6, numbered from 0 on");
    PowersHouse x = house(2, 0);
    for (int k = 0; k < 6; k++) {
      due("STATE " + k, x.state(k, 0), k);
      due("STATES", x.count(1), k + 1);
      due("PRESENT", x.count(2), (2 << k) - 1);
    }
    due("a 7th", x.state(0, 0), NONE);
    due("STATES", x.count(1), 6);
    // The sixth is one as the first.
    yes("hold", x.hold(0, 5));
    yes("claim", x.claim(0, 5, true));
    yes("worth", x.worth(5, 0, 3));
    yes("bound", x.bound(5, 4));
    due("has", x.has(5), 3);
    due("core", x.core(), 32);
    due("CLAIMS", x.look(0, 2), 32);
    yes("spy", x.spy(5, 0, 0, 9));
    due("note", x.note(0, 0, 1), 0);
    due("note", x.note(5, 5, 1), 1);
    due("orders", told(x, 5, "take rank;"), 1);
    due("offer", x.offer(0, 5, 2, 1, 9, NONE), 2);
    due("tries", x.tries(2, 0), 5);
    due("heard", x.heard(5, 0, 1), 1);
    x.article();
    due("draft", x.draft(0, 5, 1), 1);
    due("BASE", x.laid(0, 0), 5);
    yes("reserve", x.reserve(0, 5, true));
    due("STANDS", x.laid(0, 3), 5);
    x.days(1);
    due("opened", x.known(0, 5), 1);
    due("without", x.without(5, 12), 0);
    due("leave", x.leave(5), 0);
    due("PRESENT", x.count(2), 31);
    due("one left, but there are 6", x.state(0, 0), NONE);
  }

  private static void landSouls() {
    sentence("NONE: no such SOULS,");
    for (int souls : outside(1, 9999)) {
      refused("land(" + souls + ")", RICH, x -> x.land(souls), NONE);
    }
    PowersHouse x = new PowersHouse();
    due("land(1)", x.land(1), 0);
    due("1 SOUL", x.look(0, 0), 1);
    due("land(9999)", x.land(9999), 1);
    due("9999 SOULS", x.look(1, 0), 9999);
  }

  private static void landsFull() {
    sentence("or there are 12.");
    refused("a 13th LAND", FULL, x -> x.land(1), NONE);
    refused("a 13th LAND", FULL, x -> x.land(9999), NONE);
    PowersHouse x = house(11, 0);
    due("a 12th", x.land(1), 11);
    due("a 13th", x.land(1), NONE);
  }

  private static void noHolderAtFirst() {
    sentence("a HOLDER: a STATE, or none (at first);");
    PowersHouse x = house(12, 6);
    for (int l = 0; l < 12; l++) {
      due("HOLDER of " + l, x.look(l, 1), NONE);
      due("CLAIMS of " + l, x.look(l, 2), 0);
    }
    due("none are held", x.count(7), 0);
  }

  private static void rankAndHome() {
    sentence("a RANK 0 .. 99, HOME 0 .. 9 (DAYS that a courier needs to its court)");
    PowersHouse x = house(2, 0);
    x.state(0, 0);
    x.state(99, 9);
    told(x, 0, "take rank*1000+other;");
    told(x, 1, "ask rank*1000+other; home 1;");
    x.hold(0, 0);
    x.offer(0, 1, 1, 0, 300, NONE);
    x.offer(1, 0, 1, 0, 300, NONE);
    due("RANK 99, other 0", x.tries(0, 0), 99000);
    due("RANK 0, other 99", x.tries(1, 0), 99);
    x.days(1);
    due("HOME 9 and 9 DAYS later", x.paper(0, 6), 19);
    x.days(17);
    due("ASKED on DAY 18", x.paper(0, 2), 1);
    x.days(1);
    due("BOUND on DAY 19", x.paper(0, 2), 5);
  }

  private static void worthAtFirst() {
    sentence("a WORTH 0 .. 99 of each LAND (0 at first)");
    PowersHouse x = house(12, 6);
    for (int l = 0; l < 12; l++) {
      x.hold(l, l % 6);
    }
    for (int s = 0; s < 6; s++) {
      due("HAS of " + s + " at first", x.has(s), 0);
    }
    yes("99", x.worth(3, 9, 99));
    due("HAS", x.has(3), 99);
    yes("0 again", x.worth(3, 9, 0));
    due("HAS", x.has(3), 0);
  }

  private static void boundAtFirst() {
    sentence("a BOUND 0 .. 999 (0 at first)");
    PowersHouse x = house(1, 6);
    due("each has its BOUND of 0", x.core(), 0);
    told(x, 5, "take bound;");
    x.offer(0, 5, 1, 0, 9, NONE);
    due("0 at first", x.tries(0, 0), 0);
    yes("999", x.bound(5, 999));
    due("999", x.tries(0, 0), 999);
    yes("0 again", x.bound(5, 0));
    due("0", x.tries(0, 0), 0);
  }

  private static void presentTillItLeaves() {
    sentence("PRESENT till it leaves.");
    PowersHouse x = house(0, 6);
    passDays(x, 300);
    due("all of them on DAY 300", x.count(2), 63);
    x.leave(0);
    due("but one", x.count(2), 62);
    for (int s = 1; s < 6; s++) {
      x.leave(s);
    }
    due("none", x.count(2), 0);
    due("still STATES", x.count(1), 6);
  }

  private static void hasOfAll() {
    sentence("HAS of a STATE: the sum of its WORTHS of all LANDS that it holds.");
    PowersHouse x = house(12, 2);
    due("it holds none", x.has(1), 0);
    for (int l = 0; l < 12; l++) {
      x.worth(1, l, 99);
      x.hold(l, l == 0 ? 0 : 1);
    }
    due("all but one", x.has(1), 1089);
    x.hold(0, 1);
    due("all", x.has(1), 1188);
    x.hold(11, NONE);
    due("all but one", x.has(1), 1089);
  }

  // ---------------------------------------------------------------- promises 6 to 11 and 21

  private static void nearNoSuch() {
    sentence("Two LANDS are NEAR: true; false: no such ones,");
    for (int land : noSuch(5)) {
      refused("near(" + land + ", 0)", RICH, x -> x.near(land, 0) ? 1 : 0, 0);
      refused("near(4, " + land + ")", RICH, x -> x.near(4, land) ? 1 : 0, 0);
      refused("near(" + land + ", itself)", RICH, x -> x.near(land, land) ? 1 : 0, 0);
    }
    for (int land : noSuch(12)) {
      refused("near(" + land + ", 0) of 12", FULL, x -> x.near(land, 0) ? 1 : 0, 0);
    }
    no("in a house without LANDS", new PowersHouse().near(0, 1));
  }

  private static void nearTheSame() {
    sentence("both the same, or they are.");
    for (int land = 0; land < 5; land++) {
      int same = land;
      refused("near(" + land + ", " + land + ")", RICH, x -> x.near(same, same) ? 1 : 0, 0);
    }
  }

  private static void nearAlready() {
    sentence("or they are.");
    refused("near(0, 1)", RICH, x -> x.near(0, 1) ? 1 : 0, 0);
    refused("near(1, 0)", RICH, x -> x.near(1, 0) ? 1 : 0, 0);
    PowersHouse x = house(12, 0);
    for (int a = 0; a < 12; a++) {
      for (int b = 0; b < a; b++) {
        yes("near(" + a + ", " + b + ")", x.near(a, b));
        no("near(" + b + ", " + a + ")", x.near(b, a));
        no("near(" + a + ", " + b + ") again", x.near(a, b));
      }
    }
  }

  private static void stateNoSuch() {
    sentence("A STATE: its number; NONE: no such RANK, HOME,");
    for (int rank : outside(0, 99)) {
      refused("state(" + rank + ", 0)", RICH, x -> x.state(rank, 0), NONE);
    }
    for (int home : outside(0, 9)) {
      refused("state(0, " + home + ")", RICH, x -> x.state(0, home), NONE);
    }
    PowersHouse x = new PowersHouse();
    due("state(0, 0)", x.state(0, 0), 0);
    due("state(99, 9)", x.state(99, 9), 1);
    due("state(0, 9)", x.state(0, 9), 2);
    due("state(99, 0)", x.state(99, 0), 3);
  }

  private static void statesFull() {
    sentence("or there are 6.");
    refused("a 7th STATE", FULL, x -> x.state(0, 0), NONE);
    PowersHouse x = house(0, 5);
    due("a 6th", x.state(0, 0), 5);
    due("a 7th", x.state(0, 0), NONE);
    for (int s = 0; s < 6; s++) {
      x.leave(s);
    }
    due("all left, but there are 6", x.state(0, 0), NONE);
  }

  private static void holdFromToday() {
    sentence("A LAND has a HOLDER from TODAY on");
    PowersHouse x = house(1, 2);
    yes("on DAY 0", x.hold(0, 0));
    due("on DAY 0", x.way(0, 0, 1), 0);
    passDays(x, 300);
    yes("on DAY 300", x.hold(0, 1));
    due("on DAY 300", x.way(0, 1, 1), 300);
    due("HOLDER", x.look(0, 1), 1);
  }

  private static void holdNone() {
    sentence("(NONE: none): true;");
    PowersHouse x = house(1, 1);
    x.hold(0, 0);
    yes("none", x.hold(0, NONE));
    due("HOLDER", x.look(0, 1), NONE);
    due("SOULS held", x.count(7), 0);
    due("HAS", x.has(0), 0);
    yes("again", x.hold(0, 0));
  }

  private static void holdNoSuch() {
    sentence("false: no such ones (the STATE is PRESENT),");
    for (int land : noSuch(5)) {
      refused("hold(" + land + ", 0)", RICH, x -> x.hold(land, 0) ? 1 : 0, 0);
      refused("hold(" + land + ", NONE)", RICH, x -> x.hold(land, NONE) ? 1 : 0, 0);
    }
    for (int state : noSuch(4)) {
      if (state != NONE) {
        refused("hold(0, " + state + ")", RICH, x -> x.hold(0, state) ? 1 : 0, 0);
        refused("hold(4, " + state + ")", RICH, x -> x.hold(4, state) ? 1 : 0, 0);
      }
    }
    refused("hold by one that left", RICH, x -> x.hold(0, 3) ? 1 : 0, 0);
  }

  private static void holdAgain() {
    sentence("it has it, or its WAY has 20 or more.");
    refused("hold(0, 0)", RICH, x -> x.hold(0, x.look(0, 1)) ? 1 : 0, 0);
    refused("hold(4, NONE)", RICH, x -> x.hold(4, NONE) ? 1 : 0, 0);
    PowersHouse x = house(1, 1);
    no("none at first", x.hold(0, NONE));
    yes("hold", x.hold(0, 0));
    no("it has it", x.hold(0, 0));
    yes("none", x.hold(0, NONE));
    no("none already", x.hold(0, NONE));
    yes("again", x.hold(0, 0));
  }

  private static void holdWayOfTwenty() {
    sentence("or its WAY has 20 or more.");
    refused("a 21st HOLDER", FULL, x -> x.hold(0, 0) ? 1 : 0, 0);
    refused("a 21st HOLDER: none", FULL, x -> x.hold(0, NONE) ? 1 : 0, 0);
    PowersHouse x = house(2, 2);
    for (int k = 0; k < 19; k++) {
      yes("HOLDER " + k, x.hold(0, k % 2));
    }
    yes("the 20th", x.hold(0, 1));
    no("a 21st", x.hold(0, 0));
    no("a 21st: none", x.hold(0, NONE));
    yes("of another LAND", x.hold(1, 0));
    due("the 20th", x.way(0, 19, 0), 1);
    due("no 21st", x.way(0, 20, 0), NO_SUCH);
    // What is BOUND still makes a WAY longer, by one for each of 60 PAPERS.
    told(x, 0, "take 1;");
    told(x, 1, "take 1;");
    for (int k = 0; k < 60; k++) {
      x.offer(k % 2 == 0 ? 1 : 0, k % 2, 1, 0, 300, NONE);
      x.days(1);
      due("HOLDER " + (20 + k), x.look(0, 1), k % 2);
      due("way", x.way(0, 20 + k, 0), k % 2);
      due("way", x.way(0, 21 + k, 0), NO_SUCH);
    }
    no("it has more than 20", x.hold(0, 0));
    due("the last DAY", x.way(0, 79, 1), 60);
    due("the last PAPER", x.way(0, 79, 2), 59);
    due("none behind", x.way(0, 80, 0), NO_SUCH);
  }

  private static void claimNoSuch() {
    sentence("A STATE claims a LAND, or no more: true; false: no such ones,");
    for (boolean on : new boolean[] {true, false}) {
      for (int land : noSuch(5)) {
        refused("claim(" + land + ", 0)", RICH, x -> x.claim(land, 0, on) ? 1 : 0, 0);
      }
      for (int state : noSuch(4)) {
        refused("claim(0, " + state + ")", RICH, x -> x.claim(0, state, on) ? 1 : 0, 0);
        refused("claim(4, " + state + ")", RICH, x -> x.claim(4, state, on) ? 1 : 0, 0);
      }
    }
    PowersHouse x = house(1, 1);
    x.leave(0);
    yes("a STATE that left is one", x.claim(0, 0, true));
  }

  private static void claimIsSo() {
    sentence("it is so, or three do.");
    refused("it claims it", RICH, x -> x.claim(0, 0, true) ? 1 : 0, 0);
    refused("it doesn't", RICH, x -> x.claim(0, 2, false) ? 1 : 0, 0);
    PowersHouse x = house(1, 1);
    no("at first it doesn't", x.claim(0, 0, false));
    yes("it does", x.claim(0, 0, true));
    no("it does", x.claim(0, 0, true));
    yes("no more", x.claim(0, 0, false));
    no("no more", x.claim(0, 0, false));
  }

  private static void claimThree() {
    sentence("CLAIMS: STATES that claim it, at most 3.");
    refused("a fourth CLAIM", FULL, x -> x.claim(0, 0, true) ? 1 : 0, 0);
    refused("a fourth CLAIM", FULL, x -> x.claim(0, 5, true) ? 1 : 0, 0);
    PowersHouse x = house(2, 6);
    yes("first", x.claim(0, 5, true));
    yes("second", x.claim(0, 3, true));
    yes("third", x.claim(0, 1, true));
    due("CLAIMS", x.look(0, 2), 42);
    no("fourth", x.claim(0, 0, true));
    yes("of another LAND", x.claim(1, 0, true));
    x.leave(3);
    no("one of the three left", x.claim(0, 0, true));
    due("CLAIMS", x.look(0, 2), 42);
    yes("a third no more", x.claim(0, 3, false));
    yes("then another", x.claim(0, 0, true));
    due("CLAIMS", x.look(0, 2), 35);
  }

  private static void worthNoSuch() {
    sentence("WORTH of a LAND for a STATE: true; false: no such ones.");
    for (int n : outside(0, 99)) {
      refused("worth(0, 0, " + n + ")", RICH, x -> x.worth(0, 0, n) ? 1 : 0, 0);
    }
    for (int state : noSuch(4)) {
      refused("worth(" + state + ", 0, 1)", RICH, x -> x.worth(state, 0, 1) ? 1 : 0, 0);
    }
    for (int land : noSuch(5)) {
      refused("worth(0, " + land + ", 1)", RICH, x -> x.worth(0, land, 1) ? 1 : 0, 0);
    }
    PowersHouse x = house(1, 1);
    yes("0", x.worth(0, 0, 0));
    yes("99", x.worth(0, 0, 99));
    yes("99 again", x.worth(0, 0, 99));
    x.leave(0);
    yes("a STATE that left is one", x.worth(0, 0, 5));
  }

  private static void boundNoSuch() {
    sentence("BOUND: true; false: no such ones.");
    for (int n : outside(0, 999)) {
      refused("bound(0, " + n + ")", RICH, x -> x.bound(0, n) ? 1 : 0, 0);
    }
    for (int state : noSuch(4)) {
      refused("bound(" + state + ", 1)", RICH, x -> x.bound(state, 1) ? 1 : 0, 0);
    }
    PowersHouse x = house(0, 1);
    yes("0", x.bound(0, 0));
    yes("999", x.bound(0, 999));
    yes("999 again", x.bound(0, 999));
    x.leave(0);
    yes("a STATE that left is one", x.bound(0, 5));
  }

  private static void hasNoSuch() {
    sentence("HAS; NONE: no such STATE.");
    for (int state : noSuch(4)) {
      refused("has(" + state + ")", RICH, x -> x.has(state), NONE);
    }
    PowersHouse x = house(1, 0);
    due("no STATES", x.has(0), NONE);
    due("not those that hold nothing", x.has(NONE), NONE);
    x.state(0, 0);
    due("0 isn't NONE", x.has(0), 0);
    x.hold(0, 0);
    x.worth(0, 0, 7);
    x.leave(0);
    due("a STATE that left is one", x.has(0), 7);
  }

  // ---------------------------------------------------------------- promises 36 to 38

  private static void wayBeginsWithTheFirst() {
    sentence("The WAY of a LAND: its first HOLDER, and each one later, with the DAY and the PAPER "
        + "(none, if it was told).");
    PowersHouse x = house(1, 2);
    due("no HOLDER yet", x.way(0, 0, 0), NO_SUCH);
    no("none isn't a first one", x.hold(0, NONE));
    due("no HOLDER yet", x.way(0, 0, 0), NO_SUCH);
    x.days(3);
    x.hold(0, 1);
    due("the first", x.way(0, 0, 0), 1);
    due("its DAY", x.way(0, 0, 1), 3);
    due("told", x.way(0, 0, 2), NONE);
    told(x, 0, "take 1;");
    x.offer(1, 0, 1, 0, 9, NONE);
    x.days(1);
    due("the next", x.way(0, 1, 0), 0);
    due("its DAY", x.way(0, 1, 1), 4);
    due("PAPER 0 isn't NONE", x.way(0, 1, 2), 0);
    due("the first stays", x.way(0, 0, 0), 1);
  }

  private static void wayFromZeroOn() {
    sentence("Of the k-th HOLDER of a LAND's WAY (from 0 on),");
    PowersHouse x = house(2, 6);
    for (int s = 0; s < 6; s++) {
      x.hold(1, s);
      due("HOLDER " + s, x.way(1, s, 0), s);
      due("none behind it", x.way(1, s + 1, 0), NO_SUCH);
      due("none before the first", x.way(1, -1, 0), NO_SUCH);
    }
    due("the first", x.way(1, 0, 0), 0);
  }

  private static void wayNone() {
    sentence("what 0: the STATE (NONE: none), 1: the DAY, 2: the PAPER (NONE).");
    PowersHouse x = house(1, 1);
    x.hold(0, 0);
    passDays(x, 300);
    x.hold(0, NONE);
    due("none", x.way(0, 1, 0), NONE);
    due("DAY 300", x.way(0, 1, 1), 300);
    due("no PAPER", x.way(0, 1, 2), NONE);
  }

  private static void wayNoSuch() {
    sentence("-2: there is none such, no such LAND, what.");
    for (int land : noSuch(5)) {
      refused("way(" + land + ", 0, 0)", RICH, x -> x.way(land, 0, 0), NO_SUCH);
    }
    for (int k : noSuch(1)) {
      refused("way(3, " + k + ", 0)", RICH, x -> x.way(3, k, 0), NO_SUCH);
    }
    for (int what : noSuch(3)) {
      refused("way(3, 0, " + what + ")", RICH, x -> x.way(3, 0, what), NO_SUCH);
    }
    refused("of a LAND without HOLDER", RICH, x -> x.way(4, 0, 0), NO_SUCH);
    for (int k : noSuch(20)) {
      refused("way(0, " + k + ", 0) of 20", FULL, x -> x.way(0, k, 0), NO_SUCH);
    }
    // The place behind the last of one LAND isn't the first one of the next LAND.
    PowersHouse x = house(12, 1);
    for (int l = 0; l < 12; l++) {
      x.hold(l, 0);
      for (int k = 1; k < 100; k++) {
        if (l == 0 || k == 20 || k == 80) {
          due("way(" + l + ", " + k + ", 0)", x.way(l, k, 0), NO_SUCH);
        }
      }
    }
  }

  private static void lookValues() {
    sentence("Of a LAND, what 0: SOULS, 1: HOLDER (NONE), 2: CLAIMS (bits).");
    PowersHouse x = house(1, 6);
    due("no HOLDER", x.look(0, 1), NONE);
    due("no CLAIMS", x.look(0, 2), 0);
    x.hold(0, 0);
    due("STATE 0 isn't NONE", x.look(0, 1), 0);
    x.claim(0, 0, true);
    x.claim(0, 5, true);
    due("the first and the last bit", x.look(0, 2), 33);
  }

  private static void lookNoLand() {
    sentence("IndexOutOfBoundsException: no such LAND.");
    for (int land : noSuch(5)) {
      for (int what = 0; what < 3; what++) {
        int w = what;
        refused("look(" + land + ", " + what + ")", RICH, x -> thrown(x, land, w), 1);
      }
    }
    for (int land : noSuch(12)) {
      refused("look(" + land + ", 0) of 12", FULL, x -> thrown(x, land, 0), 1);
    }
    due("a house without LANDS", thrown(new PowersHouse(), 0, 0), 1);
    due("no such LAND, no such what", thrown(new PowersHouse(), 0, 3), 1);
    PowersHouse x = house(12, 0);
    due("LAND 0", thrown(x, 0, 0), 0);
    due("LAND 11", thrown(x, 11, 2), 0);
  }

  private static void lookNoWhat() {
    sentence("NoSuchElementException: no such what.");
    for (int what : noSuch(3)) {
      for (int land = 0; land < 5; land += 4) {
        int l = land;
        refused("look(" + land + ", " + what + ")", RICH, x -> thrown(x, l, what), 2);
      }
    }
  }

  private static void countAnotherWhat() {
    sentence("7 all SOULS of what is held. NONE for another what.");
    for (int what : noSuch(8)) {
      refused("count(" + what + ")", RICH, x -> x.count(what), NONE);
    }
  }

  private static void countHeldSouls() {
    sentence("7 all SOULS of what is held.");
    PowersHouse x = new PowersHouse();
    x.state(0, 0);
    due("no LANDS", x.count(7), 0);
    for (int l = 0; l < 12; l++) {
      x.land(9999);
      x.hold(l, 0);
    }
    due("all", x.count(7), 119988);
    x.hold(11, NONE);
    due("all but one", x.count(7), 109989);
    x.leave(0);
    due("by one that left", x.count(7), 109989);
  }
}
