/**
 * For each sentence on SETTLEMENTS, CORE and SWAP (terms 4 and 6; promises 22 to 27) that names a
 * boundary case, a test of its own.
 */
public final class BoundarySettlementsTest extends Checks {
  public static void main(String[] args) {
    disputed();
    othersStay();
    getsAll();
    fair();
    stableAlone();
    stableByTwo();
    stableByAnyTwo();
    stableByTheLastTwo();
    asThingsAreNow();
    spent();
    bestLeastGain();
    bestSum();
    bestFirst();
    bestWithoutPresent();
    coreFewest();
    coreLeastBits();
    coreFairOrSpent();
    ringLength();
    ringStates();
    ringWorth();
    ringOrder();
    settleCounts();
    settleNone();
    bestNobody();
    bestNone();
    withoutChangesNothing();
    withoutNone();
    judgeAnswers();
    judgeSpent();
    judgeBits();
    swapNone();
    end();
  }

  // ---------------------------------------------------------------- DISPUTED, FAIR, STABLE

  private static void disputed() {
    sentence("DISPUTED: LANDS with two CLAIMS of PRESENT STATES or more.");
    PowersHouse x = house(4, 6);
    due("no CLAIMS", x.settle(0), 0);
    due("one SETTLEMENT", x.settle(1), 1);
    x.claim(3, 0, true);
    due("one CLAIM", x.settle(0), 0);
    x.claim(3, 5, true);
    due("two CLAIMS", x.settle(0), 1);
    due("two SETTLEMENTS", x.settle(1), 2);
    x.claim(3, 2, true);
    due("three CLAIMS", x.settle(0), 1);
    due("three SETTLEMENTS", x.settle(1), 3);
    x.leave(0);
    due("two of PRESENT STATES", x.settle(0), 1);
    due("two SETTLEMENTS", x.settle(1), 2);
    x.leave(5);
    due("one of a PRESENT STATE", x.settle(0), 0);
    due("one SETTLEMENT", x.settle(1), 1);
    x.claim(3, 2, false);
    x.claim(3, 3, true);
    due("one of a PRESENT STATE", x.settle(0), 0);
  }

  private static void othersStay() {
    sentence("A SETTLEMENT gives each DISPUTED LAND to one of the PRESENT STATES that claim it; the "
        + "others stay with their HOLDERS.");
    PowersHouse x = house(4, 4);
    x.hold(0, 0);
    x.hold(1, 1);
    x.hold(2, 3);
    x.claim(0, 1, true);
    x.claim(0, 2, true);
    x.claim(1, 2, true);
    for (int s = 0; s < 4; s++) {
      for (int l = 0; l < 4; l++) {
        x.worth(s, l, 1);
      }
    }
    due("its HOLDER doesn't claim it", x.judge(0), 0);
    due("who claims it", x.judge(1), 2);
    x.worth(0, 0, 0);
    x.leave(3);
    due("0 had nothing of it", x.judge(1), 3);
    due("one CLAIM of another one", x.best(1), 1);
    due("of one that left", x.best(2), 3);
    due("of nobody", x.best(3), NONE);
    due("DISPUTED", x.best(0), 1);
    x.worth(2, 0, 2);
    due("DISPUTED", x.best(0), 2);
  }

  private static void getsAll() {
    sentence("GETS of a STATE: its WORTHS of all that it has then.");
    PowersHouse x = house(12, 3);
    for (int l = 0; l < 12; l++) {
      x.worth(1, l, 99);
      x.hold(l, l < 8 ? 0 : 1);
      if (l < 8) {
        x.claim(l, 1, true);
        x.claim(l, 2, true);
      }
    }
    x.bound(1, 999);
    due("eleven LANDS are 1089, ten are 990", x.settle(2), 9);
    due("least gain: nothing of the others", x.best(12), 0);
    due("all twelve", x.best(13), 1188);
    due("the last DISPUTED one", x.best(7), 1);
    x.worth(1, 7, 98);
    due("all twelve", x.best(13), 1187);
  }

  private static void fair() {
    sentence("FAIR: each PRESENT STATE GETS its BOUND at least.");
    PowersHouse x = house(2, 2);
    x.hold(0, 0);
    x.worth(0, 0, 7);
    x.bound(0, 7);
    due("its BOUND", x.settle(2), 1);
    due("its BOUND", x.judge(0), 3);
    x.bound(0, 8);
    due("one less", x.settle(2), 0);
    due("one less", x.judge(0), 1);
    x.bound(0, 0);
    x.bound(1, 1);
    due("the other one gets nothing", x.settle(2), 0);
    x.leave(1);
    due("but it isn't PRESENT", x.settle(2), 1);
  }

  private static void stableAlone() {
    sentence("STABLE: FAIR, and no PRESENT STATE HAS (now) more than it GETS,");
    PowersHouse x = house(2, 3);
    x.hold(0, 0);
    x.claim(0, 0, true);
    x.claim(0, 1, true);
    x.claim(1, 0, true);
    x.claim(1, 1, true);
    x.worth(0, 0, 5);
    x.worth(0, 1, 5);
    // 0 HAS 5; a row of 1 and 0 gives it LAND 1 alone.
    due("as much as it HAS", x.judge(1), 3);
    x.worth(0, 1, 4);
    due("one less", x.judge(1), 2);
    due("all", x.judge(0), 3);
    due("nothing", x.judge(1 + 8), 2);
    x.leave(0);
    due("one that left", x.judge(0), 3);
  }

  /** 0 holds LAND 0, 1 holds LAND 1, each likes the other's; LAND 2 is DISPUTED between them. */
  private static PowersHouse exchange(int forZero, int forOne) {
    PowersHouse x = house(3, 3);
    x.hold(0, 0);
    x.hold(1, 1);
    x.worth(0, 0, 5);
    x.worth(1, 1, 5);
    x.worth(0, 1, forZero);
    x.worth(1, 0, forOne);
    x.claim(2, 0, true);
    x.claim(2, 1, true);
    x.worth(0, 2, 2);
    return x;
  }

  private static void stableByTwo() {
    sentence("of no two PRESENT STATES all LANDS that they hold now could be shared between them so "
        + "that each has more than it GETS.");
    due("7 isn't more than 5 and 2", exchange(7, 6).judge(0), 3);
    due("8 is, and 6 is more than 5", exchange(8, 6).judge(0), 2);
    due("5 isn't more than 5", exchange(8, 5).judge(0), 3);
    due("9 is, by two", exchange(9, 6).judge(0), 2);
    due("6 and 6 are more than 5 and 5", exchange(6, 6).judge(1), 2);
    due("5 isn't more than 5", exchange(5, 6).judge(1), 3);
    PowersHouse x = exchange(8, 6);
    x.leave(1);
    due("one of them left", x.judge(0), 3);
    // 1 GETS LAND 2 of WORTH 1, too: then 6 isn't more than 6, but 7 is.
    x = exchange(8, 6);
    x.worth(1, 2, 1);
    due("6 isn't more than 6", x.judge(1), 3);
    x.worth(1, 0, 7);
    due("7 is more than 6", x.judge(1), 2);
    // What one doesn't care for, and GETS nothing by, it gives away gladly.
    x = exchange(3, 6);
    x.worth(0, 0, 0);
    due("3 is more than 0", x.judge(1), 2);
    x.worth(0, 1, 0);
    due("0 isn't more than 0", x.judge(1), 3);
    // What a third one holds can't be shared; what nobody holds neither.
    x = exchange(8, 6);
    x.hold(1, 2);
    due("a third one holds it", x.judge(0), 3);
    x.hold(1, NONE);
    due("nobody holds it", x.judge(0), 3);
    x.hold(1, 0);
    due("0 has both now: it GETS 15, and 1 nothing", x.judge(0), 3);
    // Two may share so that one has nothing at all: then it hasn't more.
    x = house(2, 2);
    x.hold(0, 0);
    x.hold(1, 1);
    x.worth(0, 0, 99);
    x.worth(0, 1, 99);
    due("0 and 0", x.judge(0), 3);
    // The greatest that there can be: all twelve LANDS, each WORTH 99 for who doesn't hold it.
    x = house(12, 2);
    for (int l = 0; l < 12; l++) {
      x.hold(l, l % 2);
      x.worth(1 - l % 2, l, 99);
      x.worth(l % 2, l, 98);
    }
    due("594 and 594 are more than 588 and 588", x.settle(3), 0);
    for (int l = 0; l < 12; l++) {
      x.worth(l % 2, l, 99);
    }
    due("1188 in all, 594 each", x.settle(3), 1);
  }

  private static void stableByAnyTwo() {
    sentence("and of no two PRESENT STATES all LANDS");
    for (int a = 0; a < 6; a++) {
      for (int b = 0; b < 6; b++) {
        if (a != b) {
          PowersHouse x = house(2, 6);
          x.hold(0, a);
          x.hold(1, b);
          x.worth(a, 1, 1);
          due(b + " HAS nothing to win", x.settle(3), 1);
          x.worth(b, 0, 1);
          due(a + " and " + b, x.settle(3), 0);
          due(a + " and " + b, x.judge(0), 2);
          due("without " + a, x.without(a, 12), 0);
          x.leave(b);
          due(b + " left", x.settle(3), 1);
        }
      }
    }
  }

  /** All LANDS are held, and of the greatest WORTHS: as much as there can be to share. */
  private static void stableByTheLastTwo() {
    sentence("all LANDS that they hold now could be shared between them so that each has more than "
        + "it GETS.");
    PowersHouse x = house(12, 6);
    for (int l = 0; l < 12; l++) {
      x.hold(l, l == 0 ? 4 : l < 3 ? 5 : l % 4);
      for (int s = 0; s < 5; s++) {
        x.worth(s, l, 99);
      }
    }
    x.worth(5, 1, 1);
    x.worth(5, 2, 1);
    x.worth(5, 0, 2);
    due("2 isn't more than 1 and 1", x.settle(3), 1);
    x.worth(5, 0, 3);
    due("3 is, and 198 is more than 99", x.settle(3), 0);
    due("FAIR alone", x.judge(0), 2);
    due("without 4 nothing is to be won", x.without(4, 12), 2);
    x.worth(5, 0, 99);
    x.worth(4, 1, 0);
    due("99 isn't more than 99", x.settle(3), 1);
    x.worth(4, 1, 1);
    due("100 is", x.settle(3), 0);
  }

  /** What was asked before the latest changes is answered no more, whatever those were. */
  private static void asThingsAreNow() {
    sentence("no PRESENT STATE HAS (now) more than it GETS,");
    for (int first = 0; first < 7; first++) {
      for (int then = 0; then < 7; then++) {
        PowersHouse asked = exchange(6, 6);
        answers(asked);
        change(asked, first, 0);
        change(asked, then, 1);
        PowersHouse unasked = exchange(6, 6);
        change(unasked, first, 0);
        change(unasked, then, 1);
        due("changes " + first + " and " + then, answers(asked), answers(unasked));
      }
    }
  }

  private static void change(PowersHouse x, int which, int k) {
    switch (which) {
      case 0:
        x.land(1);
        break;
      case 1:
        x.state(1, 1);
        break;
      case 2:
        x.leave(k);
        break;
      case 3:
        x.claim(k, 2, true);
        x.claim(k, k, true);
        break;
      case 4:
        x.bound(k, 7);
        break;
      case 5:
        x.worth(k, 2, 50);
        break;
      default:
        x.hold(2, k);
    }
  }

  private static long answers(PowersHouse x) {
    long all = x.core();
    for (int what = 0; what < 14; what++) {
      all = 31 * all + x.best(what);
      all = 31 * all + x.without(2, what);
      all = 31 * all + x.settle(what % 4);
      all = 31 * all + x.swap(what % 9);
      all = 31 * all + x.judge(what);
    }
    return all;
  }

  private static void spent() {
    sentence("With more than 8 DISPUTED LANDS there is no search (SPENT).");
    for (int n = 7; n <= 12; n++) {
      PowersHouse x = house(12, 3);
      for (int l = 12 - n; l < 12; l++) {
        x.claim(l, 0, true);
        x.claim(l, 2, true);
        if (l == 11) {
          x.claim(l, 1, true);
        }
      }
      boolean none = n > 8;
      due("DISPUTED", x.settle(0), n);
      due("how many", x.settle(1), none ? NONE : 3 << (n - 1));
      due("FAIR", x.settle(2), none ? NONE : 3 << (n - 1));
      due("STABLE", x.settle(3), none ? NONE : 3 << (n - 1));
      due("best", x.best(11), none ? NONE : 0);
      due("best", x.best(12), none ? NONE : 0);
      due("core", x.core(), none ? NONE : 0);
      due("judge", x.judge(0), none ? NONE : 3);
      due("judge", x.judge(7), none ? NONE : 0);
      due("without 1", x.without(1, 11), none ? NONE : 0);
      // Without 0 all but the last one have one CLAIM.
      due("without 0", x.without(0, 11), 1);
      x.leave(2);
      due("DISPUTED", x.settle(0), 1);
      due("how many", x.settle(1), 2);
    }
    PowersHouse x = house(12, 6);
    for (int l = 0; l < 8; l++) {
      for (int s = 0; s < 3; s++) {
        x.claim(l, (l + s) % 6, true);
      }
    }
    due("the most that there can be", x.settle(1), 6561);
    due("all FAIR", x.settle(2), 6561);
    due("all STABLE", x.settle(3), 6561);
  }

  // ---------------------------------------------------------------- BEST

  private static void bestLeastGain() {
    sentence("BEST: of all that are STABLE the one whose least gain (GETS less BOUND, over PRESENT "
        + "STATES) is greatest;");
    PowersHouse x = house(3, 3);
    x.claim(0, 0, true);
    x.claim(0, 1, true);
    x.worth(0, 0, 90);
    x.worth(1, 0, 10);
    x.hold(1, 0);
    x.worth(0, 1, 4);
    x.hold(2, 1);
    x.worth(1, 2, 3);
    x.leave(2);
    // To 0: 94 and 3; to 1: 4 and 13.
    due("to 1 the least is 4, to 0 it is 3", x.best(0), 1);
    due("least gain", x.best(12), 4);
    x.bound(0, 1);
    due("3 and 3: then the sum", x.best(0), 0);
    due("least gain", x.best(12), 3);
    x.bound(1, 3);
    due("the least is 0 for 0, 3 for 1", x.best(0), 1);
    x.bound(0, 4);
    due("0 and 0: then the sum", x.best(0), 0);
    due("a least gain of 0 isn't NONE", x.best(12), 0);
    x.bound(0, 5);
    due("FAIR ones alone", x.best(0), 0);
    x.bound(1, 4);
    due("none is FAIR", x.best(0), NONE);
    due("none is FAIR", x.best(12), NONE);
    due("none is FAIR", x.best(13), NONE);
    x.leave(1);
    due("a least gain over PRESENT STATES", x.best(12), NONE);
    x.bound(0, 4);
    due("a least gain over PRESENT STATES", x.best(12), 0);
  }

  private static void bestSum() {
    sentence("of several the greatest sum of GETS;");
    PowersHouse x = house(2, 3);
    x.claim(0, 0, true);
    x.claim(0, 1, true);
    x.worth(0, 0, 5);
    x.worth(1, 0, 6);
    due("the least is 0: the sum of 6", x.best(0), 1);
    due("sum", x.best(13), 6);
    x.worth(0, 0, 6);
    due("6 and 6: the first", x.best(0), 0);
    x.worth(0, 0, 7);
    due("the sum of 7", x.best(0), 0);
    due("sum", x.best(13), 7);
    x.hold(1, 2);
    x.worth(2, 1, 9);
    due("with what others have", x.best(13), 16);
    x.leave(2);
    due("of PRESENT STATES", x.best(13), 7);
    x.worth(0, 0, 0);
    x.worth(1, 0, 0);
    due("a sum of 0 isn't NONE", x.best(13), 0);
  }

  private static void bestFirst() {
    sentence("of several the first by STATES of DISPUTED LANDS in order");
    PowersHouse x = house(9, 6);
    for (int l = 1; l < 9; l++) {
      x.claim(l, 5, true);
      x.claim(l, 3, true);
    }
    for (int l = 1; l < 9; l++) {
      due("the lesser STATE of LAND " + l, x.best(l), 3);
    }
    x.worth(5, 8, 1);
    for (int l = 1; l < 9; l++) {
      due("but a greater sum", x.best(l), l == 8 ? 5 : 3);
    }
    x.worth(5, 8, 0);
    x.bound(5, 1);
    x.worth(5, 1, 1);
    x.worth(5, 2, 1);
    x.worth(3, 1, 1);
    x.worth(3, 2, 1);
    // 5 needs LAND 1 or 2; of both the row in which LAND 1 goes to 3 is the first.
    due("LAND 1", x.best(1), 3);
    due("LAND 2", x.best(2), 5);
  }

  private static void bestWithoutPresent() {
    sentence("(without PRESENT STATES there is none)");
    PowersHouse x = new PowersHouse();
    due("no STATES", x.best(12), NONE);
    due("no STATES", x.best(0), NONE);
    due("one SETTLEMENT, though", x.settle(1), 1);
    due("it is STABLE", x.settle(3), 1);
    due("it is STABLE", x.judge(0), 3);
    x = house(1, 1);
    x.hold(0, 0);
    due("one STATE", x.best(12), 0);
    due("one STATE", x.best(0), 0);
    due("without that one", x.without(0, 0), NONE);
    due("without that one", x.without(0, 12), NONE);
    due("without that one", x.without(0, 13), NONE);
    x.leave(0);
    due("all left", x.best(0), NONE);
    due("all left", x.best(12), NONE);
    due("all left", x.best(13), NONE);
    due("one SETTLEMENT, though", x.settle(3), 1);
    due("and no CORE", x.core(), 0);
  }

  // ---------------------------------------------------------------- CORE

  private static void coreFewest() {
    sentence("CORE: if none is FAIR: the fewest PRESENT STATES whose BOUNDS can't all be kept by any "
        + "SETTLEMENT;");
    // LANDS 0 to 4: each is claimed by three, six STATES want what is WORTH 10 for all.
    PowersHouse x = house(5, 6);
    for (int s = 0; s < 6; s++) {
      x.worth(s, 0, 10);
      x.bound(s, s < 3 ? 10 : 0);
    }
    x.claim(0, 0, true);
    x.claim(0, 1, true);
    x.claim(0, 2, true);
    due("two can't be kept together", x.core(), 3);
    x.bound(2, 11);
    due("one can't be kept at all", x.core(), 4);
    x.leave(2);
    due("PRESENT STATES", x.core(), 3);
    x.leave(0);
    due("one CLAIM, so nobody has it", x.core(), 2);
    x.claim(0, 0, false);
    x.claim(0, 5, true);
    due("1 alone can", x.core(), 0);
    // All six want 10, five LANDS are there: each five can be kept, all six can't.
    x = house(5, 6);
    for (int l = 0; l < 5; l++) {
      x.claim(l, l, true);
      x.claim(l, l + 1, true);
    }
    for (int s = 0; s < 6; s++) {
      x.bound(s, 10);
      for (int l = 0; l < 5; l++) {
        x.worth(s, l, 10);
      }
    }
    due("all six", x.core(), 63);
    x.bound(0, 9);
    due("9 is as much as 10 here", x.core(), 63);
    x.bound(0, 0);
    due("five can", x.core(), 0);
  }

  private static void coreLeastBits() {
    sentence("of several the least bits.");
    PowersHouse x = house(2, 6);
    for (int s = 0; s < 6; s++) {
      x.bound(s, 1);
    }
    due("each alone", x.core(), 1);
    x.bound(0, 0);
    due("but the first", x.core(), 2);
    x.bound(0, 1);
    x.leave(0);
    due("but the first", x.core(), 2);
    for (int s = 1; s < 6; s++) {
      x.worth(s, 0, 1);
      x.worth(s, 1, 1);
    }
    x.claim(0, 5, true);
    x.claim(0, 4, true);
    x.claim(0, 3, true);
    x.hold(1, 1);
    x.bound(2, 0);
    // 1 has LAND 1; of 3, 4 and 5 one can have LAND 0.
    due("3 and 4", x.core(), 24);
    x.bound(3, 0);
    due("4 and 5", x.core(), 48);
    x.bound(4, 0);
    due("all can be kept", x.core(), 0);
  }

  private static void coreFairOrSpent() {
    sentence("CORE (bits); 0: some SETTLEMENT is FAIR; NONE: SPENT.");
    PowersHouse x = house(12, 2);
    due("FAIR", x.core(), 0);
    x.bound(1, 1);
    due("not FAIR", x.core(), 2);
    for (int l = 0; l < 9; l++) {
      x.claim(l, 0, true);
      x.claim(l, 1, true);
      due((l + 1) + " DISPUTED", x.core(), l == 8 ? NONE : 2);
    }
    x.bound(1, 0);
    due("SPENT, whether FAIR or not", x.core(), NONE);
    x.claim(8, 1, false);
    due("not SPENT", x.core(), 0);
  }

  // ---------------------------------------------------------------- SWAP

  /** So many STATES with a LAND each, of which STATE s likes the LAND of the next one better. */
  private static PowersHouse ringOf(int n) {
    PowersHouse x = house(n, n);
    for (int s = 0; s < n; s++) {
      x.hold(s, s);
      x.worth(s, s, 5);
      x.worth(s, (s + 1) % n, 6);
    }
    return x;
  }

  private static void ringLength() {
    sentence("SWAP: a ring of 2 .. 4 PRESENT STATES,");
    due("no STATES", new PowersHouse().swap(0), 0);
    due("one STATE", house(2, 1).swap(0), 0);
    for (int n = 2; n <= 6; n++) {
      PowersHouse x = ringOf(n);
      due("a ring of " + n, x.swap(0), n <= 4 ? n : 0);
      for (int k = 0; k < 4; k++) {
        boolean in = n <= 4 && k < n;
        int member = k == 0 ? 0 : n - k;
        due("place " + k, x.swap(1 + k), in ? member : NONE);
        due("LAND " + k, x.swap(5 + k), in ? member : NONE);
      }
      x.leave(n - 1);
      due("one of them left", x.swap(0), 0);
    }
  }

  private static void ringStates() {
    sentence("no two alike, each gives one LAND that it holds to the next one,");
    // 0 would exchange its own two LANDS with itself, if it could.
    PowersHouse x = house(3, 2);
    x.hold(0, 0);
    x.hold(1, 0);
    x.worth(0, 0, 1);
    x.worth(0, 1, 2);
    due("with itself", x.swap(0), 0);
    x.worth(0, 2, 9);
    due("LAND 2 is held by nobody", x.swap(0), 0);
    x.hold(2, 1);
    x.worth(1, 2, 4);
    x.worth(1, 1, 5);
    due("with the other one", x.swap(0), 2);
    due("LAND 1", x.swap(5), 1);
    x.hold(1, NONE);
    due("LAND 1 is held no more", x.swap(0), 0);
  }

  private static void ringWorth() {
    sentence("each WORTH more for who gets it than what it gives:");
    for (int n = 2; n <= 4; n++) {
      for (int s = 0; s < n; s++) {
        PowersHouse x = ringOf(n);
        x.worth(s, (s + 1) % n, 5);
        due("as much for STATE " + s + " of " + n, x.swap(0), 0);
        x.worth(s, (s + 1) % n, 6);
        due("more", x.swap(0), n);
        x.worth(s, s, 6);
        due("as much", x.swap(0), 0);
      }
    }
    PowersHouse x = house(2, 2);
    x.hold(0, 0);
    x.hold(1, 1);
    due("0 isn't more than 0", x.swap(0), 0);
    x.worth(0, 1, 1);
    x.worth(1, 0, 1);
    due("1 is more than 0", x.swap(0), 2);
  }

  private static void ringOrder() {
    sentence("the shortest; of several the first by STATES in order, then by LANDS in order (it "
        + "begins with its least STATE).");
    // A ring of three by the first STATES, and a ring of two by the last ones.
    PowersHouse x = house(5, 5);
    for (int s = 0; s < 5; s++) {
      x.hold(s, s);
      x.worth(s, s, 5);
    }
    x.worth(0, 2, 6);
    x.worth(2, 1, 6);
    x.worth(1, 0, 6);
    due("three", x.swap(0), 3);
    due("0 gives to 1", x.swap(2), 1);
    x.worth(3, 4, 6);
    x.worth(4, 3, 6);
    due("the shortest", x.swap(0), 2);
    due("STATE 3", x.swap(1), 3);
    due("STATE 4", x.swap(2), 4);
    x.worth(1, 2, 6);
    due("of two the first by STATES", x.swap(1), 1);
    due("of two the first by STATES", x.swap(2), 2);
    // Both ways round: 0, 1, 2 comes before 0, 2, 1.
    x = ringOf(3);
    due("0, 2, 1", x.swap(2), 2);
    for (int s = 0; s < 3; s++) {
      x.worth(s, (s + 2) % 3, 6);
    }
    due("two now", x.swap(0), 2);
    // By LANDS: the first of STATE 0 first, then the first of STATE 1.
    x = house(12, 2);
    for (int l = 0; l < 12; l++) {
      x.hold(l, l % 2);
      x.worth(1 - l % 2, l, 1);
    }
    due("LAND 0", x.swap(5), 0);
    due("LAND 1", x.swap(6), 1);
    x.worth(0, 1, 0);
    due("LAND 0 comes first", x.swap(5), 0);
    due("then LAND 3", x.swap(6), 3);
    x.worth(0, 0, 1);
    due("LAND 2", x.swap(5), 2);
    due("LAND 3", x.swap(6), 3);
    x.worth(1, 3, 1);
    due("LAND 5", x.swap(6), 5);
    x.worth(1, 3, 0);
    due("LAND 3 again", x.swap(6), 3);
    x.worth(0, 1, 1);
    due("LAND 1 again", x.swap(6), 1);
    x.worth(0, 0, 0);
    due("LAND 0 again", x.swap(5), 0);
    due("with LAND 1", x.swap(6), 1);
  }

  // ---------------------------------------------------------------- promises 22 to 27

  private static void settleCounts() {
    sentence("SETTLEMENTS, what 0: DISPUTED LANDS, 1: how many there are, 2: FAIR ones, 3: STABLE "
        + "ones.");
    PowersHouse x = house(2, 2);
    int[] first = {0, 1, 1, 1};
    for (int what = 0; what < 4; what++) {
      due("settle(" + what + ")", x.settle(what), first[what]);
    }
    x.claim(0, 0, true);
    x.claim(0, 1, true);
    x.claim(1, 0, true);
    x.claim(1, 1, true);
    x.hold(0, 0);
    x.worth(0, 0, 1);
    x.worth(1, 1, 1);
    x.bound(1, 1);
    // 1 has to have LAND 1, and 0 has LAND 0 now.
    int[] then = {2, 4, 2, 1};
    for (int what = 0; what < 4; what++) {
      due("settle(" + what + ")", x.settle(what), then[what]);
    }
    x.bound(1, 2);
    int[] none = {2, 4, 0, 0};
    for (int what = 0; what < 4; what++) {
      due("settle(" + what + ")", x.settle(what), none[what]);
    }
  }

  private static void settleNone() {
    sentence("NONE: no such what; of 1 .. 3: SPENT.");
    for (int what : noSuch(4)) {
      refused("settle(" + what + ")", RICH, x -> x.settle(what), NONE);
    }
    PowersHouse x = house(12, 2);
    for (int l = 0; l < 12; l++) {
      x.claim(l, 0, true);
      x.claim(l, 1, true);
    }
    due("0 isn't SPENT", x.settle(0), 12);
    for (int what = 1; what < 4; what++) {
      due("SPENT", x.settle(what), NONE);
    }
    due("no such what", x.settle(4), NONE);
  }

  private static void bestNobody() {
    sentence("BEST, what 0 .. 11: who gets that LAND (NONE: nobody), 12: the least gain, 13: the sum "
        + "of GETS.");
    PowersHouse x = house(12, 6);
    x.hold(0, 0);
    x.hold(11, 5);
    due("STATE 0 isn't NONE", x.best(0), 0);
    due("nobody", x.best(1), NONE);
    due("the last LAND", x.best(11), 5);
    due("the least gain", x.best(12), 0);
    due("the sum", x.best(13), 0);
    x.worth(0, 0, 7);
    x.worth(5, 11, 8);
    due("the least gain", x.best(12), 0);
    due("the sum", x.best(13), 15);
  }

  private static void bestNone() {
    sentence("NONE: there is none, SPENT, no such what, LAND.");
    for (int what : noSuch(14)) {
      refused("best(" + what + ")", RICH, x -> x.best(what), NONE);
    }
    for (int land = 5; land < 12; land++) {
      int l = land;
      refused("best(" + land + ") of five LANDS", RICH, x -> x.best(l), NONE);
    }
    PowersHouse x = house(9, 2);
    x.hold(8, 1);
    x.bound(0, 1);
    due("there is none", x.best(8), NONE);
    due("there is none", x.best(12), NONE);
    due("there is none", x.best(13), NONE);
    x.bound(0, 0);
    due("there is one", x.best(8), 1);
    for (int l = 0; l < 9; l++) {
      x.claim(l, 0, true);
      x.claim(l, 1, true);
    }
    due("SPENT", x.best(8), NONE);
    due("SPENT", x.best(12), NONE);
    due("SPENT", x.best(13), NONE);
    due("no such what", x.best(14), NONE);
  }

  private static void withoutChangesNothing() {
    sentence("WITHOUT: BEST as it would be were one STATE not PRESENT (nothing changes).");
    for (int state = 0; state < 3; state++) {
      for (int what = 0; what < 14; what++) {
        int s = state;
        int w = what;
        PowersHouse gone = RICH.get();
        gone.leave(s);
        refused("without(" + s + ", " + w + ")", RICH, x -> x.without(s, w), gone.best(w));
      }
    }
  }

  private static void withoutNone() {
    sentence("BEST WITHOUT a STATE likewise; NONE: no such STATE (PRESENT), too.");
    for (int state : noSuch(4)) {
      for (int what : new int[] {0, 12, 13}) {
        refused("without(" + state + ")", RICH, x -> x.without(state, what), NONE);
      }
    }
    refused("one that left", RICH, x -> x.without(3, 12), NONE);
    refused("one that left", RICH, x -> x.without(3, 3), NONE);
    for (int what : noSuch(14)) {
      refused("without(0, " + what + ")", RICH, x -> x.without(0, what), NONE);
    }
    for (int land = 5; land < 12; land++) {
      int l = land;
      refused("without(0, " + land + ") of five LANDS", RICH, x -> x.without(0, l), NONE);
    }
    PowersHouse x = house(1, 2);
    x.hold(0, 1);
    x.worth(1, 0, 3);
    due("who gets it", x.without(0, 0), 1);
    due("it would still hold it", x.without(1, 0), 1);
    due("but GETS nothing that counts", x.without(1, 13), 0);
    x.bound(1, 4);
    due("there is none", x.without(0, 0), NONE);
    due("there is one", x.without(1, 12), 0);
  }

  private static void judgeAnswers() {
    sentence("is no SETTLEMENT (0), one (1), FAIR (2), STABLE (3);");
    PowersHouse x = house(2, 6);
    x.claim(0, 1, true);
    x.claim(0, 4, true);
    x.worth(1, 0, 3);
    x.worth(4, 0, 3);
    int[] want = {0, 3, 0, 0, 3, 0, 0, 0};
    for (int s = 0; s < 8; s++) {
      due("to STATE " + s, x.judge(s), want[s]);
    }
    x.bound(1, 3);
    due("FAIR, and STABLE", x.judge(1), 3);
    due("not FAIR", x.judge(4), 1);
    x.hold(0, 4);
    due("FAIR, but 4 HAS it now", x.judge(1), 2);
    x.leave(1);
    due("one CLAIM: nothing is DISPUTED", x.judge(7), 3);
    x.claim(0, 5, true);
    due("one that left", x.judge(1), 0);
    due("4", x.judge(4), 3);
    due("5", x.judge(5), 2);
  }

  private static void judgeSpent() {
    sentence("STABLE (3); NONE: SPENT.");
    PowersHouse x = house(9, 2);
    for (int l = 0; l < 9; l++) {
      due(l + " DISPUTED", x.judge(0), 3);
      x.claim(l, 0, true);
      x.claim(l, 1, true);
    }
    due("9 DISPUTED", x.judge(0), NONE);
    due("9 DISPUTED, and no SETTLEMENT", x.judge(-1), NONE);
  }

  private static void judgeBits() {
    sentence("(three bits each, the first one lowest)");
    PowersHouse x = house(9, 6);
    for (int l = 1; l < 9; l++) {
      x.claim(l, 0, true);
      x.claim(l, 5, true);
    }
    for (int k = 0; k < 8; k++) {
      due("5 for LAND " + (k + 1), x.judge(5 << 3 * k), 3);
      for (int s : new int[] {1, 2, 3, 4, 6, 7}) {
        due(s + " for LAND " + (k + 1), x.judge(s << 3 * k), 0);
      }
    }
    due("5 for all", x.judge(055555555), 3);
    due("5 for none", x.judge(0), 3);
    // LAND 1 is the lowest one.
    x.bound(0, 1);
    x.worth(0, 1, 1);
    due("0 has LAND 1", x.judge(055555550), 3);
    due("0 has LAND 8 alone", x.judge(005555555), 1);
    sentence("(Bits beyond aren't looked at.)");
    for (int bit = 24; bit < 32; bit++) {
      due("bit " + bit, x.judge(055555550 | 1 << bit), 3);
    }
    due("all beyond", x.judge(055555550 | -1 << 24), 3);
    due("none is DISPUTED", house(1, 1).judge(-1), 3);
    due("none is DISPUTED", new PowersHouse().judge(LOW), 3);
    x = house(1, 2);
    x.claim(0, 0, true);
    x.claim(0, 1, true);
    due("behind the only one", x.judge(-8), 3);
    due("behind the only one", x.judge(-7), 3);
    due("of the only one", x.judge(-6), 0);
  }

  private static void swapNone() {
    sentence("NONE for another what, or beyond the ring.");
    for (int what : noSuch(9)) {
      refused("swap(" + what + ")", RICH, x -> x.swap(what), NONE);
      due("of a ring of 4: " + what, ringOf(4).swap(what), NONE);
    }
    for (int n = 2; n <= 4; n++) {
      PowersHouse x = ringOf(n);
      for (int k = 1; k <= 4; k++) {
        yes("place " + k + " of " + n, (x.swap(k) == NONE) == (k > n));
        yes("LAND " + k + " of " + n, (x.swap(4 + k) == NONE) == (k > n));
      }
    }
    sentence("SWAP, what 0: how long the ring is (0: there is none);");
    PowersHouse x = house(1, 1);
    due("there is none", x.swap(0), 0);
    for (int what = 1; what < 9; what++) {
      due("beyond no ring", x.swap(what), NONE);
    }
  }
}
