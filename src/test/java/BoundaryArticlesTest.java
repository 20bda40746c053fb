/**
 * For each sentence on ARTICLES (terms 5; promises 28 to 34) that names a boundary case, a test of
 * its own.
 */
public final class BoundaryArticlesTest extends Checks {
  public static void main(String[] args) {
    lastArticle();
    articlesFull();
    draftSizes();
    draftGone();
    draftNone();
    draftFull();
    distances();
    distanceNone();
    baseLeastSum();
    baseTies();
    heldWays();
    laidByItself();
    laidShares();
    openWithoutDrafts();
    openByWord();
    openByHanging();
    openNotByRing();
    standsAmong();
    hangNone();
    hangIsSo();
    reserveNone();
    reserveIsSo();
    laidEmpty();
    laidNone();
    wordNone();
    end();
  }

  private static void lastArticle() {
    sentence("ARTICLES, at most 8:");
    PowersHouse x = house(0, 2);
    for (int a = 0; a < 8; a++) {
      due("ARTICLE " + a, x.article(), a);
      due("ARTICLES", x.count(5), a + 1);
    }
    due("a 9th", x.article(), NONE);
    // The eighth is one as the first.
    for (int k = 1; k <= 8; k++) {
      due("draft", x.draft(7, 1, 10 + k), k);
    }
    due("BASE", x.laid(7, 0), 1);
    due("WORDS", x.laid(7, 1), 8);
    due("the last WORD", x.word(7, 7, 0), 18);
    due("distance", x.distance(7, 1, 1), 0);
    yes("reserve", x.reserve(7, 0, true));
    yes("hang", x.hang(7, 0, true));
    yes("hang", x.hang(0, 7, true));
    due("OPEN", x.laid(7, 2), 1);
    due("nothing of the first", x.laid(0, 0), NONE);
    due("nothing of the one before", x.laid(6, 0), NONE);
  }

  private static void articlesFull() {
    sentence("An ARTICLE: its number; NONE: there are 8.");
    refused("a 9th", FULL, x -> x.article(), NONE);
    PowersHouse x = new PowersHouse();
    for (int a = 0; a < 7; a++) {
      x.article();
    }
    due("the 8th", x.article(), 7);
    due("a 9th", x.article(), NONE);
    due("ARTICLES", x.count(5), 8);
  }

  private static void draftSizes() {
    sentence("of each STATE a DRAFT or none: 1 .. 8 WORDS 1 .. 99.");
    PowersHouse x = house(0, 2);
    x.article();
    due("none", x.distance(0, 0, 0), NONE);
    due("WORD 1", x.draft(0, 0, 1), 1);
    due("a DRAFT of one WORD", x.distance(0, 0, 0), 0);
    due("WORD 99", x.draft(0, 0, 99), 2);
    due("the WORD", x.word(0, 0, 0), 1);
    due("the WORD", x.word(0, 1, 0), 99);
    for (int k = 3; k <= 8; k++) {
      due("WORD " + k, x.draft(0, 0, k), k);
    }
    due("a ninth", x.draft(0, 0, 9), NONE);
    due("eight", x.laid(0, 1), 8);
    due("of the other STATE", x.draft(0, 1, 1), 1);
  }

  private static void draftGone() {
    sentence("WORD 0: the DRAFT is gone: how many it has;");
    PowersHouse x = house(0, 2);
    x.article();
    due("there was none", x.draft(0, 0, 0), 0);
    due("still none", x.laid(0, 0), NONE);
    write(x, 0, 0, 1, 2, 3, 4, 5, 6, 7, 8);
    due("a full one is gone", x.draft(0, 0, 0), 0);
    due("gone", x.laid(0, 0), NONE);
    due("gone", x.distance(0, 0, 0), NONE);
    due("it begins again", x.draft(0, 0, 7), 1);
    due("its WORD", x.word(0, 0, 0), 7);
    due("no more", x.word(0, 1, 0), NONE);
  }

  private static void draftNone() {
    sentence("how many it has; NONE: no such ones, or it has 8.");
    for (int article : noSuch(3)) {
      refused("draft(" + article + ", 0, 1)", RICH, x -> x.draft(article, 0, 1), NONE);
      refused("draft(" + article + ", 0, 0)", RICH, x -> x.draft(article, 0, 0), NONE);
    }
    for (int state : noSuch(4)) {
      refused("draft(0, " + state + ", 1)", RICH, x -> x.draft(0, state, 1), NONE);
      refused("draft(0, " + state + ", 0)", RICH, x -> x.draft(0, state, 0), NONE);
      refused("draft(2, " + state + ", 1)", RICH, x -> x.draft(2, state, 1), NONE);
    }
    for (int word : outside(0, 99)) {
      refused("draft(0, 0, " + word + ")", RICH, x -> x.draft(0, 0, word), NONE);
    }
    refused("of one that left", RICH, x -> x.draft(0, 3, 1), NONE);
    refused("of one that left", RICH, x -> x.draft(0, 3, 0), NONE);
    PowersHouse x = house(0, 2);
    x.article();
    x.draft(0, 1, 5);
    x.leave(1);
    due("not gone", x.draft(0, 1, 0), NONE);
    due("it is still there", x.distance(0, 1, 1), 0);
  }

  private static void draftFull() {
    sentence("NONE: no such ones, or it has 8.");
    for (int word : new int[] {1, 8, 99}) {
      refused("a ninth WORD", FULL, x -> x.draft(0, 0, word), NONE);
    }
    due("room in the next one", FULL.get().draft(0, 1, 1), 1);
    due("room in the next one", FULL.get().draft(1, 0, 1), 1);
  }

  private static int apart(int[] a, int[] b) {
    PowersHouse x = house(0, 2);
    x.article();
    write(x, 0, 0, a);
    write(x, 0, 1, b);
    due("the other way", x.distance(0, 1, 0), x.distance(0, 0, 1));
    return x.distance(0, 0, 1);
  }

  private static int[] row(int... words) {
    return words;
  }

  private static void distances() {
    sentence("DISTANCE of two DRAFTS: the fewest WORDS put in, left out or put in place of another "
        + "one that make the one the other.");
    int[] eight = row(1, 2, 3, 4, 5, 6, 7, 8);
    due("alike", apart(eight, eight), 0);
    due("one WORD alike", apart(row(1), row(1)), 0);
    due("one WORD for another", apart(row(1), row(99)), 1);
    due("all eight", apart(eight, row(11, 12, 13, 14, 15, 16, 17, 18)), 8);
    due("seven put in", apart(row(5), eight), 7);
    due("seven put in, one in place", apart(row(9), eight), 8);
    due("the first left out", apart(eight, row(2, 3, 4, 5, 6, 7, 8)), 1);
    due("the last left out", apart(eight, row(1, 2, 3, 4, 5, 6, 7)), 1);
    due("one left out, one put in", apart(eight, row(2, 3, 4, 5, 6, 7, 8, 1)), 2);
    due("two for two", apart(row(1, 2), row(2, 1)), 2);
    due("the same WORD twice", apart(row(1, 1), row(1)), 1);
    PowersHouse x = house(0, 1);
    x.article();
    x.draft(0, 0, 4);
    due("one STATE twice", x.distance(0, 0, 0), 0);
  }

  private static void distanceNone() {
    sentence("DISTANCE of the DRAFTS of two STATES; NONE: no such ones, or there is no such DRAFT.");
    for (int article : noSuch(3)) {
      refused("distance(" + article + ", 0, 1)", RICH, x -> x.distance(article, 0, 1), NONE);
      refused("distance(" + article + ", 0, 0)", RICH, x -> x.distance(article, 0, 0), NONE);
    }
    for (int state : noSuch(4)) {
      refused("distance(0, " + state + ", 0)", RICH, x -> x.distance(0, state, 0), NONE);
      refused("distance(0, 0, " + state + ")", RICH, x -> x.distance(0, 0, state), NONE);
      refused("distance of none", RICH, x -> x.distance(0, state, state), NONE);
    }
    refused("no DRAFT of 2", RICH, x -> x.distance(0, 0, 2), NONE);
    refused("no DRAFT of 2", RICH, x -> x.distance(0, 2, 0), NONE);
    refused("no DRAFT of 2", RICH, x -> x.distance(0, 2, 2), NONE);
    PowersHouse x = house(0, 2);
    x.article();
    write(x, 0, 0, 1);
    write(x, 0, 1, 2);
    x.leave(1);
    due("a STATE that left is one", x.distance(0, 0, 1), 1);
  }

  private static void baseLeastSum() {
    sentence("BASE: the DRAFT of a PRESENT STATE with the least sum of DISTANCES to those of all "
        + "PRESENT ones,");
    PowersHouse x = house(0, 6);
    x.article();
    write(x, 0, 5, 1, 2);
    due("the only one", x.laid(0, 0), 5);
    for (int s = 0; s < 5; s++) {
      write(x, 0, s, 1 + 10 * s, 20 + s);
    }
    // 0 has 1 20, 5 has 1 2: both are at 1 from each other and at 2 from all others.
    due("0 and 5 are as near", x.laid(0, 0), 0);
    write(x, 0, 4, 41, 2);
    due("5 is nearer by one", x.laid(0, 0), 5);
    x.leave(4);
    due("not to one that left", x.laid(0, 0), 0);
    x.leave(0);
    // 1 to 3 and 5 are at 2 from each other.
    due("not of one that left", x.laid(0, 0), 1);
  }

  private static void baseTies() {
    sentence("of several that of the lesser RANK, then the lesser number.");
    PowersHouse x = new PowersHouse();
    int[] rank = {99, 7, 6, 6, 0, 99};
    for (int r : rank) {
      x.state(r, 0);
    }
    x.article();
    for (int s = 0; s < 6; s++) {
      write(x, 0, s, 5);
    }
    int[] order = {4, 2, 3, 1, 0, 5};
    for (int s : order) {
      due("the lesser RANK, then the lesser number", x.laid(0, 0), s);
      x.leave(s);
    }
    due("none", x.laid(0, 0), NONE);
    // The sum comes before the RANK: 1 is nearer to both others.
    x = new PowersHouse();
    x.state(1, 0);
    x.state(99, 0);
    x.state(1, 0);
    x.article();
    write(x, 0, 0, 1, 2, 3);
    write(x, 0, 1, 1, 2, 4);
    write(x, 0, 2, 1, 5, 4);
    due("the least sum", x.laid(0, 0), 1);
  }

  /** By how many each WORD of the DRAFT of 0 is HELD, if it is the BASE and 1 has another one. */
  private static void held(int[] base, int[] other, int... want) {
    PowersHouse x = house(0, 2);
    x.article();
    write(x, 0, 0, base);
    write(x, 0, 1, other);
    due("BASE", x.laid(0, 0), 0);
    for (int k = 0; k < want.length; k++) {
      due("WORD " + k, x.word(0, k, 1), want[k]);
    }
  }

  private static void heldWays() {
    sentence("keeps or changes a WORD if it can, else leaves one out of the BASE if it can, else puts "
        + "one in:");
    held(row(1), row(1), 2);
    held(row(1), row(2), 1);
    held(row(1, 1), row(1), 2, 1);
    held(row(1), row(1, 1), 2);
    held(row(1, 2), row(2), 1, 2);
    held(row(2), row(1, 2), 2);
    held(row(2), row(2, 1), 2);
    held(row(1, 2), row(2, 1), 1, 1);
    held(row(1, 2), row(2, 3), 1, 1);
    // To leave out 1 and put in 4 is as short as two changes, which come first.
    held(row(1, 2, 3), row(2, 4, 3), 1, 1, 2);
    // To leave out comes before to put in: 1 is left out at the front, put in at the end.
    held(row(1, 2, 1, 2, 1, 2), row(2, 1, 2, 1, 2, 1), 1, 2, 2, 2, 2, 2);
    // 3 can only be put in at the front.
    held(row(1, 2, 3, 1, 2), row(3, 1, 2, 3, 1), 2, 2, 2, 2, 1);
    held(row(1, 2, 3, 4, 5, 6, 7, 8), row(8), 1, 1, 1, 1, 1, 1, 1, 2);
    held(row(1, 2, 3, 4, 5, 6, 7, 8), row(1), 2, 1, 1, 1, 1, 1, 1, 1);
    held(row(8), row(1, 2, 3, 4, 5, 6, 7, 8), 2);
    held(row(1, 2, 3, 4, 5, 6, 7, 8), row(2, 3, 4, 5, 6, 7, 8, 9), 1, 2, 2, 2, 2, 2, 2, 2);
    // One is left out and one put in before the last, so that the way has nine steps; ten.
    held(row(1, 2, 3, 4, 5, 6, 7, 8), row(2, 3, 4, 5, 6, 7, 9, 8), 1, 2, 2, 2, 2, 2, 2, 2);
    held(row(1, 2, 3, 4, 5, 6, 7, 8), row(3, 4, 5, 6, 9, 9, 7, 8), 1, 1, 2, 2, 2, 2, 2, 2);
    held(row(1, 1, 1, 1), row(1, 1), 2, 2, 1, 1);
    held(row(5, 1, 1), row(1, 1, 1), 1, 2, 2);
    // What a DRAFT had before it was gone isn't there.
    PowersHouse x = house(0, 2);
    x.article();
    write(x, 0, 0, 1, 2, 3, 4);
    write(x, 0, 1, 1, 2, 3, 4);
    due("kept", x.word(0, 3, 1), 2);
    write(x, 0, 1, 1, 2);
    due("kept", x.word(0, 1, 1), 2);
    due("left out", x.word(0, 2, 1), 1);
    due("left out", x.word(0, 3, 1), 1);
    due("DISTANCE", x.distance(0, 0, 1), 2);
  }

  private static void laidByItself() {
    sentence("LAID: of each WORD of the BASE by how many PRESENT DRAFTS it is HELD (its own, too):");
    PowersHouse x = house(0, 6);
    x.article();
    write(x, 0, 0, 1, 2);
    due("by itself", x.word(0, 0, 1), 1);
    due("AGREED", x.word(0, 0, 2), 2);
    for (int s = 1; s < 6; s++) {
      write(x, 0, s, 1, 2);
      due("by " + (s + 1), x.word(0, 1, 1), s + 1);
    }
    for (int s = 1; s < 6; s++) {
      x.leave(s);
      due("without those that left", x.word(0, 1, 1), 6 - s);
    }
  }

  private static void laidShares() {
    sentence("AGREED if by all PRESENT STATES that have a DRAFT, OPEN if by half of these or fewer, "
        + "else SOME.");
    for (int n = 1; n <= 6; n++) {
      for (int h = 1; h <= n; h++) {
        PowersHouse x = house(0, 6);
        x.article();
        for (int s = 0; s < n; s++) {
          write(x, 0, s, 50, s < h ? 1 : 10 + s);
        }
        String of = h + " of " + n;
        due("BASE: " + of, x.laid(0, 0), 0);
        due("by how many: " + of, x.word(0, 1, 1), h);
        due("what it is: " + of, x.word(0, 1, 2), h == n ? 2 : 2 * h <= n ? 0 : 1);
        due("OPEN: " + of, x.laid(0, 2), h < n && 2 * h <= n ? 1 : 0);
        due("AGREED by all " + n, x.word(0, 0, 2), 2);
        due("by all " + n, x.word(0, 0, 1), n);
      }
    }
    // Those that left count no more: two of three, then two of two.
    PowersHouse x = house(0, 3);
    x.article();
    write(x, 0, 0, 1);
    write(x, 0, 1, 1);
    write(x, 0, 2, 2);
    due("SOME", x.word(0, 0, 2), 1);
    x.leave(2);
    due("AGREED", x.word(0, 0, 2), 2);
  }

  // ---------------------------------------------------------------- OPEN, STANDS

  private static void openWithoutDrafts() {
    sentence("An ARTICLE is OPEN if it has no DRAFTS,");
    PowersHouse x = house(0, 2);
    x.article();
    due("no DRAFTS", x.laid(0, 2), 1);
    due("it doesn't stand", x.laid(0, 3), 0);
    x.draft(0, 0, 1);
    due("one DRAFT of one WORD", x.laid(0, 2), 0);
    due("it stands", x.laid(0, 3), 2);
    x.draft(0, 0, 0);
    due("gone", x.laid(0, 2), 1);
    x.draft(0, 0, 1);
    x.leave(0);
    due("of one that left", x.laid(0, 2), 1);
  }

  private static void openByWord() {
    sentence("an OPEN WORD,");
    for (int k = 0; k < 8; k++) {
      PowersHouse x = house(0, 2);
      x.article();
      int[] words = {1, 2, 3, 4, 5, 6, 7, 8};
      write(x, 0, 0, words);
      write(x, 0, 1, words);
      due("none", x.laid(0, 2), 0);
      words[k] = 99;
      write(x, 0, 1, words);
      due("WORD " + k, x.laid(0, 2), 1);
      due("WORD " + k, x.laid(0, 3), 0);
    }
  }

  /** Eight ARTICLES, of which the last one has no DRAFT and hangs are to be told. */
  private static PowersHouse eight(int without) {
    PowersHouse x = house(0, 2);
    for (int a = 0; a < 8; a++) {
      x.article();
      if (a != without) {
        x.draft(a, 0, 1);
      }
    }
    return x;
  }

  private static void openByHanging() {
    sentence("or HANGS on one that is OPEN");
    PowersHouse x = eight(7);
    for (int a = 0; a < 7; a++) {
      x.hang(a, a + 1, true);
    }
    for (int a = 0; a < 8; a++) {
      due("upwards: " + a, x.laid(a, 2), 1);
    }
    x.hang(3, 4, false);
    for (int a = 0; a < 8; a++) {
      due("cut behind 3: " + a, x.laid(a, 2), a > 3 ? 1 : 0);
    }
    x = eight(0);
    for (int a = 1; a < 8; a++) {
      x.hang(a, a - 1, true);
    }
    for (int a = 0; a < 8; a++) {
      due("downwards: " + a, x.laid(a, 2), 1);
    }
    // Not the other way: one on which an OPEN one hangs.
    x = eight(0);
    x.hang(0, 7, true);
    due("OPEN", x.laid(0, 2), 1);
    due("not OPEN", x.laid(7, 2), 0);
  }

  private static void openNotByRing() {
    sentence("(a ring of such alone doesn't make one OPEN)");
    for (int n = 2; n <= 8; n++) {
      PowersHouse x = eight(NONE);
      for (int a = 0; a < n; a++) {
        x.hang(a, (a + 1) % n, true);
      }
      for (int a = 0; a < 8; a++) {
        due("a ring of " + n + ": " + a, x.laid(a, 2), 0);
        due("it stands", x.laid(a, 3), 2);
      }
      x.draft(n - 1, 0, 0);
      for (int a = 0; a < 8; a++) {
        due("one of them is OPEN: " + a, x.laid(a, 2), a < n ? 1 : 0);
      }
    }
  }

  private static void standsAmong() {
    sentence("It STANDS among PRESENT STATES without a RESERVE, if it isn't OPEN and these are two at "
        + "least.");
    for (int n = 1; n <= 6; n++) {
      PowersHouse x = house(0, n);
      x.article();
      x.draft(0, 0, 1);
      due(n + " STATES", x.laid(0, 3), n >= 2 ? n : 0);
      for (int s = 0; s < n; s++) {
        x.reserve(0, s, true);
        int left = n - 1 - s;
        due(left + " of " + n + " without a RESERVE", x.laid(0, 3), left >= 2 ? left : 0);
      }
      due("it isn't OPEN, though", x.laid(0, 2), 0);
      x.draft(0, 0, 0);
      for (int s = 0; s < n; s++) {
        x.reserve(0, s, false);
      }
      due("OPEN", x.laid(0, 3), 0);
    }
    PowersHouse x = house(0, 3);
    x.article();
    x.draft(0, 0, 1);
    x.reserve(0, 1, true);
    due("two", x.laid(0, 3), 2);
    x.leave(1);
    due("one with a RESERVE left", x.laid(0, 3), 2);
    x.leave(2);
    due("one without left", x.laid(0, 3), 0);
  }

  // ---------------------------------------------------------------- promises 30, 31, 33 and 34

  private static void hangNone() {
    sentence("An ARTICLE HANGS on another one, or no more: true; false: no such ones, both the same,");
    for (boolean is : new boolean[] {true, false}) {
      for (int article : noSuch(3)) {
        refused("hang(" + article + ", 0)", RICH, x -> x.hang(article, 0, is) ? 1 : 0, 0);
        refused("hang(0, " + article + ")", RICH, x -> x.hang(0, article, is) ? 1 : 0, 0);
        refused("hang of none", RICH, x -> x.hang(article, article, is) ? 1 : 0, 0);
      }
      for (int article = 0; article < 3; article++) {
        int same = article;
        refused("both " + article, RICH, x -> x.hang(same, same, is) ? 1 : 0, 0);
      }
    }
  }

  private static void hangIsSo() {
    sentence("both the same, or it is so.");
    refused("it hangs", RICH, x -> x.hang(0, 1, true) ? 1 : 0, 0);
    refused("it doesn't", RICH, x -> x.hang(1, 0, false) ? 1 : 0, 0);
    PowersHouse x = eight(NONE);
    for (int a = 0; a < 8; a++) {
      for (int b = 0; b < 8; b++) {
        if (a != b) {
          no("it doesn't", x.hang(a, b, false));
          yes("it does", x.hang(a, b, true));
          no("it does already", x.hang(a, b, true));
        }
      }
    }
    yes("no more", x.hang(7, 0, false));
    no("no more already", x.hang(7, 0, false));
  }

  private static void reserveNone() {
    sentence("A RESERVE of a STATE (PRESENT), or no more: true; false: no such ones,");
    for (boolean is : new boolean[] {true, false}) {
      for (int article : noSuch(3)) {
        refused("reserve(" + article + ", 0)", RICH, x -> x.reserve(article, 0, is) ? 1 : 0, 0);
      }
      for (int state : noSuch(4)) {
        refused("reserve(0, " + state + ")", RICH, x -> x.reserve(0, state, is) ? 1 : 0, 0);
        refused("reserve(2, " + state + ")", RICH, x -> x.reserve(2, state, is) ? 1 : 0, 0);
      }
      refused("of one that left", RICH, x -> x.reserve(0, 3, is) ? 1 : 0, 0);
    }
    PowersHouse x = house(0, 2);
    x.article();
    x.reserve(0, 1, true);
    x.leave(1);
    no("it left with its RESERVE", x.reserve(0, 1, false));
  }

  private static void reserveIsSo() {
    sentence("false: no such ones, or it is so.");
    refused("it has one", RICH, x -> x.reserve(0, 1, true) ? 1 : 0, 0);
    refused("it has none", RICH, x -> x.reserve(0, 0, false) ? 1 : 0, 0);
    PowersHouse x = house(0, 6);
    for (int a = 0; a < 8; a++) {
      x.article();
      for (int s = 0; s < 6; s++) {
        no("none yet", x.reserve(a, s, false));
        yes("reserve", x.reserve(a, s, true));
        no("it is so", x.reserve(a, s, true));
      }
    }
    yes("no more", x.reserve(7, 5, false));
    no("no more already", x.reserve(7, 5, false));
  }

  private static void laidEmpty() {
    sentence("LAID, what 0: the STATE of the BASE (NONE), 1: how many WORDS it has (0), 2: whether it "
        + "is OPEN, 3: among how many it STANDS (0: it doesn't).");
    PowersHouse x = house(0, 2);
    x.article();
    int[] empty = {NONE, 0, 1, 0};
    for (int what = 0; what < 4; what++) {
      due("without DRAFTS: " + what, x.laid(0, what), empty[what]);
    }
    x.draft(0, 0, 1);
    int[] one = {0, 1, 0, 2};
    for (int what = 0; what < 4; what++) {
      due("one WORD: " + what, x.laid(0, what), one[what]);
    }
    write(x, 0, 0, 1, 2, 3, 4, 5, 6, 7, 8);
    due("eight WORDS", x.laid(0, 1), 8);
  }

  private static void laidNone() {
    sentence("NONE: no such ARTICLE, what.");
    for (int article : noSuch(3)) {
      for (int what = 0; what < 4; what++) {
        int w = what;
        refused("laid(" + article + ", " + what + ")", RICH, x -> x.laid(article, w), NONE);
      }
    }
    for (int what : noSuch(4)) {
      refused("laid(0, " + what + ")", RICH, x -> x.laid(0, what), NONE);
    }
    due("no ARTICLES", house(0, 2).laid(0, 0), NONE);
  }

  private static void wordNone() {
    sentence("2: 0 OPEN, 1 SOME, 2 AGREED. NONE: no such ones.");
    for (int article : noSuch(3)) {
      refused("word(" + article + ", 0, 0)", RICH, x -> x.word(article, 0, 0), NONE);
    }
    for (int what : noSuch(3)) {
      refused("word(0, 0, " + what + ")", RICH, x -> x.word(0, 0, what), NONE);
    }
    for (int n = 0; n <= 8; n++) {
      PowersHouse x = house(0, 1);
      x.article();
      for (int k = 1; k <= n; k++) {
        x.draft(0, 0, k);
      }
      for (int k : noSuch(n)) {
        for (int what = 0; what < 3; what++) {
          due("WORD " + k + " of " + n, x.word(0, k, what), NONE);
        }
      }
      if (n > 0) {
        due("the first of " + n, x.word(0, 0, 0), 1);
        due("the last of " + n, x.word(0, n - 1, 0), n);
      }
    }
  }
}
