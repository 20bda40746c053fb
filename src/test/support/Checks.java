import java.io.IOException;
import java.nio.charset.StandardCharsets;
import java.nio.file.Files;
import java.nio.file.Path;
import java.util.ArrayList;
import java.util.IdentityHashMap;
import java.util.List;
import java.util.Map;
import java.util.NoSuchElementException;
import java.util.function.Supplier;
import java.util.function.ToLongFunction;

/** What the boundary tests share: sentences, answers, houses, and pictures of all that one tells. */
class Checks {
  static final int NONE = PowersHouse.NONE;
  static final int NO_SUCH = -2;
  static final long ERROR = Long.MIN_VALUE;
  static final int LOW = Integer.MIN_VALUE;
  static final int HIGH = Integer.MAX_VALUE;

  /** A house with something of everything, and room for more of it. TODAY is 2. */
  static final Supplier<PowersHouse> RICH = Checks::makeRich;
  /** A house that has no room for anything more. */
  static final Supplier<PowersHouse> FULL = Checks::makeFull;

  private static final int VIEWS = 10;
  private static final Map<Supplier<PowersHouse>, String> PICTURES = new IdentityHashMap<>();
  private static final List<String> DOCUMENT = new ArrayList<>();
  private static String sentence = "";
  private static int sentences = 0;
  private static int checked = 0;
  private static int wrong = 0;

  Checks() {}

  // ---------------------------------------------------------------- answers

  /** What follows tests this sentence of the document (if it is at hand, it has to have it). */
  static void sentence(String words) {
    sentence = words;
    sentences++;
    if (DOCUMENT.isEmpty()) {
      DOCUMENT.add(readDocument());
    }
    String text = DOCUMENT.get(0);
    if (!text.isEmpty() && !text.contains(plain(words))) {
      wrong++;
      System.out.println("the document has no such sentence: " + words);
    }
  }

  private static String readDocument() {
    Path path = Path.of("../shared/DOC.md");
    try {
      return Files.exists(path) ? plain(Files.readString(path, StandardCharsets.UTF_8)) : "";
    } catch (IOException e) {
      return "";
    }
  }

  private static String plain(String text) {
    return text.replaceAll("\\s+", " ");
  }

  static void due(String call, long got, long want) {
    checked++;
    if (got != want) {
      wrong++;
      System.out.println("[" + sentence + "] " + call + " answered " + got + ", due is " + want);
    }
  }

  static void yes(String call, boolean got) {
    due(call, got ? 1 : 0, 1);
  }

  static void no(String call, boolean got) {
    due(call, got ? 1 : 0, 0);
  }

  /** A refused call gives this answer, and all that the house tells is as without the call. */
  static void refused(
      String call, Supplier<PowersHouse> house, ToLongFunction<PowersHouse> f, long answer) {
    due(call, f.applyAsLong(house.get()), answer);
    checked++;
    String before = PICTURES.computeIfAbsent(house, h -> picture(h, x -> 0));
    String now = picture(house, f);
    if (!before.equals(now)) {
      wrong++;
      System.out.println("[" + sentence + "] " + call + " was refused, but changed the house");
    }
  }

  /** 1: IndexOutOfBoundsException, 2: NoSuchElementException, 0: none. */
  static int thrown(PowersHouse x, int land, int what) {
    try {
      x.look(land, what);
      return 0;
    } catch (IndexOutOfBoundsException e) {
      return 1;
    } catch (NoSuchElementException e) {
      return 2;
    }
  }

  static void end() {
    System.out.println(
        sentences + " sentences, " + checked + " answers checked, " + wrong + " are not as due");
    if (wrong != 0) {
      System.exit(1);
    }
  }

  // ---------------------------------------------------------------- numbers

  /** Numbers outside of low .. high: next to it, far away, and what a wrap-around would let in. */
  static int[] outside(int low, int high) {
    int[] some = {low - 1, low - 2, high + 1, high + 2, 31, 32, 33, 63, 64, 128, 256, 65536,
        low - 256, high + 256, high + 65536, LOW, LOW + 1, LOW + high, HIGH, HIGH - 1};
    List<Integer> kept = new ArrayList<>();
    for (int n : some) {
      if (n < low || n > high) {
        kept.add(n);
      }
    }
    return kept.stream().mapToInt(Integer::intValue).toArray();
  }

  /** Numbers of things that aren't there if there are so many. */
  static int[] noSuch(int count) {
    return outside(0, count - 1);
  }

  // ---------------------------------------------------------------- houses

  /** Feeds a text (filled up with blanks) and makes it the ORDERS of a STATE. */
  static int told(PowersHouse x, int state, String text) {
    fed(x, text);
    return x.orders(text.length(), state);
  }

  static void fed(PowersHouse x, String text) {
    StringBuilder sb = new StringBuilder(text);
    while (sb.length() % 20 != 0) {
      sb.append(' ');
    }
    for (int k = 0; k < sb.length(); k += 20) {
      int[] n = new int[5];
      for (int i = 0; i < 20; i++) {
        n[i / 4] = n[i / 4] << 8 | sb.charAt(k + i) & 255;
      }
      x.feed(n[0], n[1], n[2], n[3], n[4]);
    }
  }

  /** A house with so many LANDS (SOULS 10, 20 ..) and STATES (RANK 0, 1 .., HOME 0). */
  static PowersHouse house(int lands, int states) {
    PowersHouse x = new PowersHouse();
    for (int k = 0; k < lands; k++) {
      x.land(10 * (k + 1));
    }
    for (int k = 0; k < states; k++) {
      x.state(k, 0);
    }
    return x;
  }

  static void passDays(PowersHouse x, int n) {
    for (int left = n; left > 0; left -= 50) {
      x.days(Math.min(left, 50));
    }
  }

  static void write(PowersHouse x, int article, int state, int... words) {
    x.draft(article, state, 0);
    for (int w : words) {
      x.draft(article, state, w);
    }
  }

  private static PowersHouse makeRich() {
    PowersHouse x = new PowersHouse();
    for (int l = 0; l < 5; l++) {
      x.land(10 * (l + 1));
    }
    x.state(5, 1);
    x.state(3, 0);
    x.state(3, 2);
    x.state(9, 0);
    x.near(0, 1);
    x.near(1, 2);
    x.near(3, 4);
    for (int l = 0; l < 4; l++) {
      x.hold(l, l);
      for (int s = 0; s < 4; s++) {
        x.worth(s, l, 5 + (7 * s + 3 * l) % 20);
      }
    }
    int[][] claims = {{0, 0}, {0, 1}, {1, 1}, {1, 2}, {2, 2}, {2, 0}, {3, 3}, {3, 0}, {4, 2}};
    for (int[] c : claims) {
      x.claim(c[0], c[1], true);
    }
    x.bound(0, 4);
    x.bound(1, 6);
    told(x, 0, "refuse souls>0; take linked;");
    told(x, 1, "take gain>=0; refuse gain<0-5; ask 1; home 0;");
    told(x, 2, "ask 1; home day>3;");
    x.spy(1, 0, 0, 9);
    x.spy(3, 1, 1, 300);
    x.offer(0, 1, 1, 2, 9, NONE);
    x.offer(1, 2, 2, 4, 20, NONE);
    x.offer(2, 0, 4, 0, 20, NONE);
    x.offer(1, 0, 0, 1, 20, 2);
    x.offer(3, 0, 8, 1, 20, NONE);
    x.note(0, 1, 7);
    x.note(0, 0, 7);
    x.days(2);
    x.note(1, 1, 8);
    x.offer(0, 2, 1, 0, 40, 1);
    for (int a = 0; a < 3; a++) {
      x.article();
      write(x, a, 0, 1, 2, 3);
      write(x, a, 1, 1, a + 2, 4, 5);
    }
    x.hang(0, 1, true);
    x.reserve(0, 1, true);
    x.leave(3);
    told(x, 2, "ask ;");
    fed(x, "take 1; refuse 2; home 3; ask ) 4;");
    return x;
  }

  private static PowersHouse makeFull() {
    PowersHouse x = house(12, 6);
    for (int k = 0; k < 20; k++) {
      x.hold(0, k % 6);
      x.spy(k % 5, 5, k, 300);
    }
    for (int l = 1; l < 12; l++) {
      x.hold(l, l % 6);
      x.worth(l % 6, l, 9);
    }
    for (int s = 1; s < 4; s++) {
      x.claim(0, s, true);
    }
    for (int k = 0; k < 60; k++) {
      if (k % 3 == 0) {
        x.note(k % 6, k % 6, 1 + k);
      } else {
        x.offer(k % 6, (k + 1) % 6, 1 << k % 12, 0, 300, k % 3 == 2 ? k - 1 : NONE);
      }
    }
    for (int a = 0; a < 8; a++) {
      x.article();
    }
    write(x, 0, 0, 1, 2, 3, 4, 5, 6, 7, 8);
    fed(x, "take 1; refuse 2;   ".repeat(20));
    return x;
  }

  // ---------------------------------------------------------------- pictures

  /** All that houses of this kind tell after a call; each view has a house of its own. */
  private static String picture(Supplier<PowersHouse> house, ToLongFunction<PowersHouse> call) {
    StringBuilder sb = new StringBuilder();
    for (int v = 0; v < VIEWS; v++) {
      PowersHouse x = house.get();
      call.applyAsLong(x);
      sb.append("\nview ").append(v).append(':');
      view(x, v, sb);
    }
    return sb.toString();
  }

  private static void view(PowersHouse x, int v, StringBuilder sb) {
    switch (v) {
      case 0:
        viewLands(x, sb);
        break;
      case 5:
        viewOrders(x, sb);
        break;
      case 6:
        viewSettlements(x, sb);
        break;
      case 7:
        viewArticles(x, sb);
        break;
      case 8:
        viewByTelling(x, sb);
        break;
      case 9:
        viewByDays(x, sb);
        break;
      default:
        viewPapers(x, 15 * (v - 1), sb);
    }
  }

  private static void put(StringBuilder sb, long n) {
    sb.append(' ').append(n);
  }

  private static void viewLands(PowersHouse x, StringBuilder sb) {
    for (int what = 0; what < 8; what++) {
      put(sb, x.count(what));
    }
    put(sb, x.fault(0));
    put(sb, x.fault(1));
    for (int s = 0; s < 6; s++) {
      put(sb, x.has(s));
    }
    for (int l = 0; l < x.count(0); l++) {
      for (int what = 0; what < 3; what++) {
        put(sb, x.look(l, what));
      }
      for (int k = 0; x.way(l, k, 0) != NO_SUCH && k < 90; k++) {
        for (int what = 0; what < 3; what++) {
          put(sb, x.way(l, k, what));
        }
      }
    }
  }

  private static void viewPapers(PowersHouse x, int first, StringBuilder sb) {
    for (int p = first; p < first + 15 && p < x.count(3); p++) {
      for (int what = 0; what < 7; what++) {
        put(sb, x.paper(p, what));
      }
      put(sb, x.why(p));
      for (int s = 0; s < 6; s++) {
        put(sb, x.known(p, s));
      }
    }
  }

  private static void viewOrders(PowersHouse x, StringBuilder sb) {
    for (int p = 0; p < 12; p++) {
      for (int line = 0; line < 5; line++) {
        put(sb, x.tries(p, line));
      }
    }
    for (int s = 0; s < 6; s++) {
      for (int word : new int[] {1, 7, 8, 58}) {
        put(sb, x.heard(s, x.count(4), word));
      }
    }
  }

  private static void viewSettlements(PowersHouse x, StringBuilder sb) {
    for (int what = 0; what < 4; what++) {
      put(sb, x.settle(what));
    }
    for (int what = 0; what < 14; what++) {
      put(sb, x.best(what));
      for (int s = 0; s < 6; s++) {
        put(sb, x.without(s, what));
      }
    }
    put(sb, x.core());
    for (int row = 0; row < 600; row += 9) {
      put(sb, x.judge(row));
    }
    for (int what = 0; what < 9; what++) {
      put(sb, x.swap(what));
    }
  }

  private static void viewArticles(PowersHouse x, StringBuilder sb) {
    for (int a = 0; a < x.count(5); a++) {
      for (int what = 0; what < 4; what++) {
        put(sb, x.laid(a, what));
      }
      for (int k = 0; k < 8; k++) {
        put(sb, x.word(a, k, 0));
        put(sb, x.word(a, k, 1));
      }
      for (int s = 0; s < 6; s++) {
        put(sb, x.distance(a, 0, s));
      }
    }
  }

  /** What can't be asked for is seen by what is refused as being so. */
  private static void viewByTelling(PowersHouse x, StringBuilder sb) {
    int tape = x.feed(0, 0, 0, 0, 0);
    put(sb, tape);
    put(sb, x.orders(tape == NONE ? 400 : tape - 20, 0));
    put(sb, x.fault(1));
    for (int a = 0; a < x.count(0); a++) {
      for (int b = 0; b < a; b++) {
        put(sb, x.near(a, b) ? 1 : 0);
      }
    }
    for (int a = 0; a < x.count(5); a++) {
      for (int b = 0; b < x.count(5); b++) {
        put(sb, x.hang(a, b, true) ? 1 : 0);
      }
      for (int s = 0; s < 6; s++) {
        put(sb, x.reserve(a, s, true) ? 1 : 0);
      }
    }
  }

  private static void viewByDays(PowersHouse x, StringBuilder sb) {
    for (int s = 0; s < 6; s++) {
      put(sb, x.note(s, s, 99));
    }
    int papers = x.count(3);
    for (int n = 0; n < 5; n++) {
      int today = x.days(1);
      put(sb, today);
      for (int s = 0; s < 6; s++) {
        put(sb, x.heard(s, today, 99));
      }
      // With each DAY it would be more than 512 calls in a full house.
      for (int p = 0; p < papers && n % 4 == 0; p++) {
        put(sb, x.paper(p, 2));
      }
    }
  }
}
