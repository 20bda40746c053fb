import java.util.NoSuchElementException;

/** The clerk-general's house of a congress of powers; the promises are numbered in the document. */
public final class PowersHouse {
  public static final int NONE = -1;

  private static final int NO_SUCH = -2;
  private static final int MAX_LANDS = 12;
  private static final int MAX_STATES = 6;
  private static final int MAX_CLAIMS = 3;
  private static final int MAX_SOULS = 9999;
  private static final int MAX_RANK = 99;
  private static final int MAX_HOME = 9;
  private static final int MAX_WORTH = 99;
  private static final int MAX_BOUND = 999;
  private static final int MAX_WORD = 99;
  private static final int LAST_DAY = 300;
  private static final int MAX_DAYS_AT_ONCE = 50;
  private static final int MAX_PAPERS = 60;
  private static final int MAX_SPIES = 20;
  private static final int MAX_ARTICLES = 8;
  private static final int MAX_DRAFT = 8;
  private static final int MAX_DISPUTED = 8;
  private static final int MAX_RING = 4;
  /** hold() stops at 20, but each of the 60 PAPERS may still move the LAND once. */
  private static final int TOLD_WAY = 20;
  private static final int WAY_ROOM = TOLD_WAY + MAX_PAPERS;

  private static final int TAPE_ROOM = 400;
  private static final int FEED_BYTES = 20;
  private static final int MAX_NUMBER = 99999;
  private static final int MAX_KNOTS = 64;
  private static final int MAX_OPEN = 8;
  private static final int MAX_LINES = 16;
  private static final int FAULT_WRONG = 1;
  private static final int FAULT_TOO_MUCH = 2;

  /** The place of a word here is its code; a blank ends each one. */
  private static final String WORDS =
      "take refuse ask home not and or gain got lost souls near mine bound rank other day left linked ";
  private static final int TAKE = 0;
  private static final int REFUSE = 1;
  private static final int ASK = 2;
  private static final int HOME = 3;
  private static final int NOT = 4;
  private static final int AND = 5;
  private static final int OR = 6;
  private static final int FIRST_NAME = 7;
  private static final int NAMES = 12;
  private static final int PLUS = 19;
  private static final int MINUS = 20;
  private static final int TIMES = 21;
  private static final int OVER = 22;
  private static final int REST = 23;
  private static final int LESS = 24;
  private static final int LESS_EQUAL = 25;
  private static final int EQUAL = 26;
  private static final int UNEQUAL = 27;
  private static final int GREATER_EQUAL = 28;
  private static final int GREATER = 29;
  private static final int OPENING = 30;
  private static final int CLOSING = 31;
  private static final int SEMICOLON = 32;
  private static final int NEGATE = 33;
  private static final int END = 34;
  private static final int NO_TOKEN = 35;
  private static final int NUMBER_TOKEN = 36;
  /** The code of a number n is this and n more, so that one int tells both. */
  private static final int NUMBER = 100;

  private static final long ERROR = Long.MIN_VALUE;
  private static final long MAX_VALUE = 1000000000000L;

  private static final int PENDING = 0;
  private static final int ASKED = 1;
  private static final int TAKEN = 2;
  private static final int REFUSED = 3;
  private static final int LAPSED = 4;
  private static final int BOUND = 5;
  private static final int VOID = 6;

  private final Realm realm;
  private final Tape tape;
  private final OrdersReader reader;
  private final OrdersBook book;
  private final Spies spies;
  private final Papers papers;
  private final Delegates delegates;
  private final Settlements settlements;
  private final Settlements settlementsWithout;
  private final Ring ring;
  private final Articles articles;

  public PowersHouse() {
    realm = new Realm();
    tape = new Tape();
    reader = new OrdersReader(tape);
    book = new OrdersBook();
    spies = new Spies();
    papers = new Papers();
    delegates = new Delegates(realm, papers, book);
    Shares shares = new Shares(realm);
    settlements = new Settlements(realm, shares);
    settlementsWithout = new Settlements(realm, shares);
    ring = new Ring(realm);
    articles = new Articles(realm);
  }

  public int feed(int a, int b, int c, int d, int e) {
    if (tape.length + FEED_BYTES > TAPE_ROOM) {
      return NONE;
    }
    tape.putFour(a);
    tape.putFour(b);
    tape.putFour(c);
    tape.putFour(d);
    tape.putFour(e);
    return tape.length;
  }

  public int orders(int n, int state) {
    if (n < 0 || n > tape.length || !realm.isState(state)) {
      return NO_SUCH;
    }
    reader.readText(n);
    if (reader.fault != 0) {
      return NONE;
    }
    book.copyFrom(reader, state);
    return reader.lines;
  }

  public int fault(int what) {
    if (what == 0) {
      return reader.fault;
    }
    return what == 1 ? reader.faultPlace : NONE;
  }

  public int land(int souls) {
    if (souls < 1 || souls > MAX_SOULS) {
      return NONE;
    }
    return realm.addLand(souls);
  }

  public boolean near(int a, int b) {
    if (!realm.isLand(a) || !realm.isLand(b) || a == b || realm.areNear(a, b)) {
      return false;
    }
    realm.makeNear(a, b);
    return true;
  }

  public int state(int rank, int home) {
    if (rank < 0 || rank > MAX_RANK || home < 0 || home > MAX_HOME) {
      return NONE;
    }
    return realm.addState(rank, home);
  }

  public boolean hold(int land, int state) {
    if (!realm.isLand(land) || (state != NONE && !realm.isPresent(state))) {
      return false;
    }
    if (realm.holderOf(land) == state || realm.wayLengthOf(land) >= TOLD_WAY) {
      return false;
    }
    realm.giveLand(land, state, NONE);
    return true;
  }

  public boolean claim(int land, int state, boolean on) {
    if (!realm.isLand(land) || !realm.isState(state)) {
      return false;
    }
    int claims = realm.claimsOf(land);
    if (hasBit(claims, state) == on || (on && Integer.bitCount(claims) >= MAX_CLAIMS)) {
      return false;
    }
    realm.setClaims(land, claims ^ (1 << state));
    return true;
  }

  public boolean worth(int state, int land, int n) {
    if (!realm.isState(state) || !realm.isLand(land) || n < 0 || n > MAX_WORTH) {
      return false;
    }
    realm.setWorth(state, land, n);
    return true;
  }

  public boolean bound(int state, int n) {
    if (!realm.isState(state) || n < 0 || n > MAX_BOUND) {
      return false;
    }
    realm.setBound(state, n);
    return true;
  }

  public int offer(int from, int to, int gives, int takes, int till, int links) {
    if (!realm.isPresent(from) || !realm.isPresent(to) || from == to) {
      return NONE;
    }
    int given = gives | takes;
    if (given == 0 || (gives & takes) != 0 || (given & ~realm.allLands()) != 0) {
      return NONE;
    }
    if (till < realm.today || till > LAST_DAY || papers.isFull()) {
      return NONE;
    }
    if (links != NONE && !papers.isOffer(links)) {
      return NONE;
    }
    int number = papers.addPaper(from, to, realm.today);
    papers.makeOffer(number, gives, takes, till, links);
    return number;
  }

  public int note(int from, int to, int word) {
    if (!realm.isPresent(from) || !realm.isPresent(to) || !isWord(word) || papers.isFull()) {
      return NONE;
    }
    int number = papers.addPaper(from, to, realm.today);
    // SPIES told later open nothing that was sent, so who opens it is settled now.
    papers.makeNote(number, word, from == to ? spies.openersOf(from, realm.today) : 0);
    return number;
  }

  public boolean spy(int state, int on, int from, int to) {
    if (!realm.isState(state) || !realm.isState(on) || state == on) {
      return false;
    }
    if (from < realm.today || from > to || to > LAST_DAY) {
      return false;
    }
    return spies.addSpy(state, on, from, to);
  }

  public int days(int n) {
    if (n < 1 || n > MAX_DAYS_AT_ONCE || realm.today + n > LAST_DAY) {
      return NONE;
    }
    for (int k = 0; k < n; k++) {
      delegates.passDay();
    }
    return realm.today;
  }

  public int paper(int paper, int what) {
    return papers.tell(paper, what);
  }

  public int why(int paper) {
    return papers.isOffer(paper) ? delegates.firstLine(paper, false) : NONE;
  }

  public long tries(int paper, int line) {
    if (!papers.isOffer(paper) || !book.isLine(papers.receiver(paper), line)) {
      return ERROR;
    }
    delegates.viewOffer(paper);
    return delegates.lineValue(papers.receiver(paper), line);
  }

  public int known(int paper, int state) {
    if (!papers.isPaper(paper) || !realm.isState(state)) {
      return NONE;
    }
    int day = papers.knownDay(paper, state);
    return day <= realm.today ? day : NONE;
  }

  public int heard(int state, int day, int word) {
    if (!realm.isState(state) || day < 0 || day > realm.today || !isWord(word)) {
      return NONE;
    }
    return papers.notesKnown(state, day, word);
  }

  public int has(int state) {
    return realm.isState(state) ? realm.worthHeld(state) : NONE;
  }

  public int settle(int what) {
    if (what < 0 || what > 3) {
      return NONE;
    }
    if (what == 0) {
      return realm.disputedAmong(realm.present);
    }
    settlements.search(realm.present);
    return settlements.howMany(what);
  }

  public int best(int what) {
    settlements.search(realm.present);
    return settlements.tellBest(what);
  }

  public int without(int state, int what) {
    if (!realm.isPresent(state)) {
      return NONE;
    }
    settlementsWithout.search(realm.present & ~(1 << state));
    return settlementsWithout.tellBest(what);
  }

  public int core() {
    settlements.search(realm.present);
    return settlements.fewestAtOdds();
  }

  public int judge(int row) {
    return settlements.judgeRow(realm.present, row);
  }

  public int swap(int what) {
    ring.find();
    return ring.tell(what);
  }

  public int article() {
    return articles.addArticle();
  }

  public int draft(int article, int state, int word) {
    if (!articles.isArticle(article) || !realm.isPresent(state)) {
      return NONE;
    }
    if (word == 0) {
      return articles.dropDraft(article, state);
    }
    return isWord(word) ? articles.addWord(article, state, word) : NONE;
  }

  public boolean hang(int article, int on, boolean is) {
    if (!articles.isArticle(article) || !articles.isArticle(on) || article == on) {
      return false;
    }
    return articles.setHanging(article, on, is);
  }

  public boolean reserve(int article, int state, boolean is) {
    if (!articles.isArticle(article) || !realm.isPresent(state)) {
      return false;
    }
    return articles.setReserve(article, state, is);
  }

  public int distance(int article, int a, int b) {
    if (articles.draftLength(article, a) == 0 || articles.draftLength(article, b) == 0) {
      return NONE;
    }
    return articles.stepsBetween(article, a, b);
  }

  public int laid(int article, int what) {
    if (!articles.isArticle(article)) {
      return NONE;
    }
    switch (what) {
      case 0:
        return articles.baseOf(article);
      case 1:
        return articles.draftLength(article, articles.baseOf(article));
      case 2:
        return articles.isOpen(article) ? 1 : 0;
      case 3:
        return articles.isOpen(article) ? 0 : articles.signersOf(article);
      default:
        return NONE;
    }
  }

  public int word(int article, int k, int what) {
    if (!articles.isArticle(article)) {
      return NONE;
    }
    return articles.tellWord(article, k, what);
  }

  public int leave(int state) {
    if (!realm.isPresent(state)) {
      return NONE;
    }
    realm.removeState(state);
    return papers.lapseOffersOf(state);
  }

  public int way(int land, int k, int what) {
    return realm.tellWay(land, k, what);
  }

  public int look(int land, int what) throws IndexOutOfBoundsException, NoSuchElementException {
    if (!realm.isLand(land)) {
      throw new IndexOutOfBoundsException("no such land");
    }
    switch (what) {
      case 0:
        return realm.soulsOf(land);
      case 1:
        return realm.holderOf(land);
      case 2:
        return realm.claimsOf(land);
      default:
        throw new NoSuchElementException("no such what");
    }
  }

  public int count(int what) {
    switch (what) {
      case 0:
        return realm.landCount;
      case 1:
        return realm.stateCount;
      case 2:
        return realm.present;
      case 3:
        return papers.count;
      case 4:
        return realm.today;
      case 5:
        return articles.count;
      case 6:
        return spies.count;
      case 7:
        return realm.soulsHeld();
      default:
        return NONE;
    }
  }

  private static boolean isWord(int word) {
    return word >= 1 && word <= MAX_WORD;
  }

  private static boolean hasBit(int bits, int k) {
    return k >= 0 && k < 31 && ((bits >> k) & 1) != 0;
  }

  /** LANDS with their WAYS, STATES, and TODAY. */
  private static final class Realm {
    int landCount = 0;
    int stateCount = 0;
    int present = 0;
    int today = 0;
    /** Grows with all that a search looks at, so that a search isn't done twice. */
    int changes = 0;
    private final int[] souls = new int[MAX_LANDS];
    private final int[] nearBits = new int[MAX_LANDS];
    private final int[] holder = new int[MAX_LANDS];
    private final int[] claims = new int[MAX_LANDS];
    private final int[] wayLength = new int[MAX_LANDS];
    private final int[] wayState = new int[MAX_LANDS * WAY_ROOM];
    private final int[] wayDay = new int[MAX_LANDS * WAY_ROOM];
    private final int[] wayPaper = new int[MAX_LANDS * WAY_ROOM];
    private final int[] rank = new int[MAX_STATES];
    private final int[] home = new int[MAX_STATES];
    private final int[] bounds = new int[MAX_STATES];
    private final int[] worths = new int[MAX_STATES * MAX_LANDS];

    Realm() {}

    boolean isLand(int land) {
      return land >= 0 && land < landCount && land < MAX_LANDS;
    }

    boolean isState(int state) {
      return state >= 0 && state < stateCount && state < MAX_STATES;
    }

    boolean isPresent(int state) {
      return isState(state) && hasBit(present, state);
    }

    int allLands() {
      return (1 << landCount) - 1;
    }

    int addLand(int soulsOfIt) {
      if (landCount >= MAX_LANDS) {
        return NONE;
      }
      souls[landCount] = soulsOfIt;
      holder[landCount] = NONE;
      landCount++;
      changes++;
      return landCount - 1;
    }

    int addState(int rankOfIt, int homeOfIt) {
      if (stateCount >= MAX_STATES) {
        return NONE;
      }
      rank[stateCount] = rankOfIt;
      home[stateCount] = homeOfIt;
      present |= 1 << stateCount;
      stateCount++;
      changes++;
      return stateCount - 1;
    }

    void removeState(int state) {
      if (isState(state)) {
        present &= ~(1 << state);
        changes++;
      }
    }

    int soulsOf(int land) {
      return isLand(land) ? souls[land] : 0;
    }

    int holderOf(int land) {
      return isLand(land) ? holder[land] : NONE;
    }

    int claimsOf(int land) {
      return isLand(land) ? claims[land] : 0;
    }

    void setClaims(int land, int bits) {
      if (isLand(land)) {
        claims[land] = bits;
        changes++;
      }
    }

    boolean areNear(int a, int b) {
      return isLand(a) && hasBit(nearBits[a], b);
    }

    void makeNear(int a, int b) {
      if (isLand(a) && isLand(b)) {
        nearBits[a] |= 1 << b;
        nearBits[b] |= 1 << a;
      }
    }

    int rankOf(int state) {
      return isState(state) ? rank[state] : 0;
    }

    int homeOf(int state) {
      return isState(state) ? home[state] : 0;
    }

    int boundOf(int state) {
      return isState(state) ? bounds[state] : 0;
    }

    void setBound(int state, int n) {
      if (isState(state)) {
        bounds[state] = n;
        changes++;
      }
    }

    int worthOf(int state, int land) {
      if (state < 0 || state >= MAX_STATES || land < 0 || land >= MAX_LANDS) {
        return 0;
      }
      return worths[state * MAX_LANDS + land];
    }

    void setWorth(int state, int land, int n) {
      if (isState(state) && isLand(land)) {
        worths[state * MAX_LANDS + land] = n;
        changes++;
      }
    }

    int wayLengthOf(int land) {
      return isLand(land) ? wayLength[land] : 0;
    }

    void giveLand(int land, int state, int paper) {
      if (!isLand(land)) {
        return;
      }
      int k = wayLength[land];
      if (k >= 0 && k < WAY_ROOM) {
        int at = land * WAY_ROOM + k;
        wayState[at] = state;
        wayDay[at] = today;
        wayPaper[at] = paper;
        wayLength[land] = k + 1;
      }
      holder[land] = state;
      changes++;
    }

    int tellWay(int land, int k, int what) {
      if (!isLand(land) || k < 0 || k >= wayLength[land] || k >= WAY_ROOM) {
        return NO_SUCH;
      }
      int at = land * WAY_ROOM + k;
      switch (what) {
        case 0:
          return wayState[at];
        case 1:
          return wayDay[at];
        case 2:
          return wayPaper[at];
        default:
          return NO_SUCH;
      }
    }

    int landsHeld(int state) {
      int bits = 0;
      for (int land = 0; land < landCount && land < MAX_LANDS; land++) {
        if (holder[land] == state) {
          bits |= 1 << land;
        }
      }
      return bits;
    }

    int worthOfLands(int state, int lands) {
      int sum = 0;
      for (int land = 0; land < landCount; land++) {
        if (hasBit(lands, land)) {
          sum += worthOf(state, land);
        }
      }
      return sum;
    }

    int worthHeld(int state) {
      return worthOfLands(state, landsHeld(state));
    }

    int soulsOfLands(int lands) {
      int sum = 0;
      for (int land = 0; land < landCount && land < MAX_LANDS; land++) {
        if (hasBit(lands, land)) {
          sum += souls[land];
        }
      }
      return sum;
    }

    int soulsHeld() {
      return soulsOfLands(allLands() & ~landsHeld(NONE));
    }

    /** How many of some LANDS are NEAR one of others. */
    int countNear(int lands, int others) {
      int n = 0;
      for (int land = 0; land < landCount && land < MAX_LANDS; land++) {
        if (hasBit(lands, land) && (nearBits[land] & others) != 0) {
          n++;
        }
      }
      return n;
    }

    boolean isDisputed(int land, int states) {
      return Integer.bitCount(claimsOf(land) & states) >= 2;
    }

    int disputedAmong(int states) {
      int n = 0;
      for (int land = 0; land < landCount; land++) {
        if (isDisputed(land, states)) {
          n++;
        }
      }
      return n;
    }
  }

  /** The TAPE, and the TOKENS of the text that is read from it. */
  private static final class Tape {
    int length = 0;
    /** Of the latest TOKEN: where it begins, and its number if it is one. */
    int place = 0;
    int number = 0;
    private final byte[] bytes = new byte[TAPE_ROOM];
    private int end = 0;
    private int at = 0;

    Tape() {}

    void putFour(int n) {
      for (int shift = 24; shift >= 0; shift -= 8) {
        if (length >= 0 && length < TAPE_ROOM) {
          bytes[length] = (byte) (n >>> shift);
          length++;
        }
      }
    }

    /** The first n bytes are the text now; the TAPE itself is empty. */
    void beginText(int n) {
      end = Math.max(0, Math.min(n, length));
      at = 0;
      length = 0;
    }

    int nextToken() {
      while (at < end && isBlank(byteAt(at))) {
        at++;
      }
      place = at;
      if (at >= end) {
        return END;
      }
      int b = byteAt(at);
      if (isLetter(b)) {
        return readWord();
      }
      return isDigit(b) ? readNumber() : readSign(b);
    }

    private int byteAt(int k) {
      return k >= 0 && k < end && k < TAPE_ROOM ? bytes[k] : 0;
    }

    private static boolean isBlank(int b) {
      return b == 10 || b == 32;
    }

    private static boolean isLetter(int b) {
      return b >= 'a' && b <= 'z';
    }

    private static boolean isDigit(int b) {
      return b >= '0' && b <= '9';
    }

    private int readWord() {
      while (at < end && isLetter(byteAt(at))) {
        at++;
      }
      int code = 0;
      int k = place;
      boolean same = true;
      for (int i = 0; i < WORDS.length(); i++) {
        char c = WORDS.charAt(i);
        if (c != ' ') {
          same = same && k < at && byteAt(k) == c;
          k++;
        } else if (same && k == at) {
          return code;
        } else {
          code++;
          k = place;
          same = true;
        }
      }
      return NO_TOKEN;
    }

    private int readNumber() {
      number = 0;
      while (at < end && isDigit(byteAt(at))) {
        // One above the greatest is as good as any greater one, and never wraps around.
        number = Math.min(number * 10 + byteAt(at) - '0', MAX_NUMBER + 1);
        at++;
      }
      return NUMBER_TOKEN;
    }

    private int readSign(int b) {
      at++;
      switch (b) {
        case '+':
          return PLUS;
        case '-':
          return MINUS;
        case '*':
          return TIMES;
        case '/':
          return OVER;
        case '%':
          return REST;
        case '=':
          return EQUAL;
        case '<':
          return readBehindLess();
        case '>':
          return skipSign('=') ? GREATER_EQUAL : GREATER;
        case '(':
          return OPENING;
        case ')':
          return CLOSING;
        case ';':
          return SEMICOLON;
        default:
          return NO_TOKEN;
      }
    }

    private int readBehindLess() {
      if (skipSign('=')) {
        return LESS_EQUAL;
      }
      return skipSign('>') ? UNEQUAL : LESS;
    }

    private boolean skipSign(int b) {
      if (at >= end || byteAt(at) != b) {
        return false;
      }
      at++;
      return true;
    }
  }

  /** Reads a text of ORDERS into codes in which each sign stands behind what it works on. */
  private static final class OrdersReader {
    private static final int VERB_DUE = 0;
    /** A not may stand here, too. */
    private static final int CLAUSE_DUE = 1;
    private static final int TERM_DUE = 2;
    private static final int SIGN_DUE = 3;
    private static final int NOTHING_DUE = 4;

    int fault = 0;
    int faultPlace = NONE;
    int lines = 0;
    int size = 0;
    final int[] code = new int[MAX_KNOTS];
    final int[] verb = new int[MAX_LINES];
    /** Where the codes of a line end. */
    final int[] lineEnd = new int[MAX_LINES];
    private final Tape tape;
    /** Signs and open parentheses whose right side isn't read yet. */
    private final int[] waiting = new int[MAX_KNOTS + MAX_OPEN];
    private int waits = 0;
    private int due = VERB_DUE;
    private int knots = 0;
    private int open = 0;
    /** Bit k: a comparison was read in the clause that is k parentheses deep. */
    private int compared = 0;

    OrdersReader(Tape tape) {
      this.tape = tape;
    }

    void readText(int n) {
      fault = 0;
      faultPlace = NONE;
      lines = 0;
      size = 0;
      waits = 0;
      due = VERB_DUE;
      knots = 0;
      open = 0;
      compared = 0;
      tape.beginText(n);
      // Each TOKEN has a byte at least, and the end is one more.
      for (int k = 0; k <= n && due != NOTHING_DUE && fault == 0; k++) {
        acceptToken(tape.nextToken());
      }
    }

    private void acceptToken(int token) {
      if (due == VERB_DUE) {
        acceptVerb(token);
      } else if (due == SIGN_DUE) {
        acceptSign(token);
      } else {
        acceptOperand(token);
      }
    }

    private void markFault(int which) {
      fault = which;
      faultPlace = tape.place;
    }

    private void acceptVerb(int token) {
      if (token == END) {
        due = NOTHING_DUE;
      } else if (token < TAKE || token > HOME) {
        markFault(FAULT_WRONG);
      } else if (lines < 0 || lines >= MAX_LINES) {
        markFault(FAULT_TOO_MUCH);
      } else {
        verb[lines] = token;
        lines++;
        compared = 0;
        due = CLAUSE_DUE;
      }
    }

    private void acceptOperand(int token) {
      if (token == NUMBER_TOKEN) {
        acceptNumber();
      } else if (token >= FIRST_NAME && token < FIRST_NAME + NAMES) {
        if (countKnot()) {
          putCode(token);
          due = SIGN_DUE;
        }
      } else if (token == OPENING) {
        openParenthesis();
      } else if (token == MINUS) {
        acceptPrefix(NEGATE, TERM_DUE);
      } else if (token == NOT && due == CLAUSE_DUE) {
        acceptPrefix(NOT, CLAUSE_DUE);
      } else {
        markFault(FAULT_WRONG);
      }
    }

    private void acceptNumber() {
      if (tape.number > MAX_NUMBER) {
        markFault(FAULT_TOO_MUCH);
      } else if (countKnot()) {
        putCode(NUMBER + tape.number);
        due = SIGN_DUE;
      }
    }

    private void acceptPrefix(int sign, int dueThen) {
      if (countKnot()) {
        putWaiting(sign);
        due = dueThen;
      }
    }

    private void openParenthesis() {
      if (open >= MAX_OPEN) {
        markFault(FAULT_TOO_MUCH);
        return;
      }
      open++;
      compared &= ~(1 << open);
      putWaiting(OPENING);
      due = CLAUSE_DUE;
    }

    private void acceptSign(int token) {
      if (token >= PLUS && token <= REST) {
        acceptBinary(token, TERM_DUE);
      } else if (token >= LESS && token <= GREATER && !hasBit(compared, open)) {
        compared |= 1 << open;
        acceptBinary(token, TERM_DUE);
      } else if (token == AND || token == OR) {
        compared &= ~(1 << open);
        acceptBinary(token, CLAUSE_DUE);
      } else if (token == CLOSING && open > 0) {
        putCodesDownTo(1);
        waits = Math.max(0, waits - 1);
        open--;
      } else if (token == SEMICOLON && open == 0) {
        endLine();
      } else {
        markFault(FAULT_WRONG);
      }
    }

    private void acceptBinary(int sign, int dueThen) {
      if (countKnot()) {
        putCodesDownTo(strength(sign));
        putWaiting(sign);
        due = dueThen;
      }
    }

    private void endLine() {
      putCodesDownTo(1);
      if (lines >= 1 && lines <= MAX_LINES) {
        lineEnd[lines - 1] = size;
      }
      due = VERB_DUE;
    }

    private boolean countKnot() {
      if (knots >= MAX_KNOTS) {
        markFault(FAULT_TOO_MUCH);
        return false;
      }
      knots++;
      return true;
    }

    private void putCode(int c) {
      if (size >= 0 && size < MAX_KNOTS) {
        code[size] = c;
        size++;
      }
    }

    private void putWaiting(int sign) {
      if (waits >= 0 && waits < MAX_KNOTS + MAX_OPEN) {
        waiting[waits] = sign;
        waits++;
      }
    }

    /** What binds as strongly, or more so, has its right side now. */
    private void putCodesDownTo(int least) {
      while (waits > 0 && waits <= MAX_KNOTS + MAX_OPEN && strength(waiting[waits - 1]) >= least) {
        waits--;
        putCode(waiting[waits]);
      }
    }

    private static int strength(int sign) {
      switch (sign) {
        case OPENING:
          return 0;
        case OR:
          return 1;
        case AND:
          return 2;
        case NOT:
          return 3;
        case PLUS:
        case MINUS:
          return 5;
        case TIMES:
        case OVER:
        case REST:
          return 6;
        case NEGATE:
          return 7;
        default:
          return 4;
      }
    }
  }

  /** The ORDERS of each STATE, as codes. */
  private static final class OrdersBook {
    private final int[] lines = new int[MAX_STATES];
    private final int[] codes = new int[MAX_STATES * MAX_KNOTS];
    private final int[] verbs = new int[MAX_STATES * MAX_LINES];
    private final int[] lineEnds = new int[MAX_STATES * MAX_LINES];

    OrdersBook() {}

    void copyFrom(OrdersReader reader, int state) {
      if (state < 0 || state >= MAX_STATES) {
        return;
      }
      lines[state] = Math.min(reader.lines, MAX_LINES);
      for (int k = 0; k < MAX_KNOTS; k++) {
        codes[state * MAX_KNOTS + k] = reader.code[k];
      }
      for (int k = 0; k < MAX_LINES; k++) {
        verbs[state * MAX_LINES + k] = reader.verb[k];
        lineEnds[state * MAX_LINES + k] = reader.lineEnd[k];
      }
    }

    int linesOf(int state) {
      return state >= 0 && state < MAX_STATES ? lines[state] : 0;
    }

    boolean isLine(int state, int line) {
      return line >= 0 && line < MAX_LINES && line < linesOf(state);
    }

    int verbOf(int state, int line) {
      return isLine(state, line) ? verbs[state * MAX_LINES + line] : NONE;
    }

    int endOf(int state, int line) {
      return isLine(state, line) ? lineEnds[state * MAX_LINES + line] : 0;
    }

    int codeAt(int state, int k) {
      if (state < 0 || state >= MAX_STATES || k < 0 || k >= MAX_KNOTS) {
        return NUMBER;
      }
      return codes[state * MAX_KNOTS + k];
    }
  }

  /** Who opens what which STATE sends home, and when. */
  private static final class Spies {
    int count = 0;
    private final int[] owner = new int[MAX_SPIES];
    private final int[] victim = new int[MAX_SPIES];
    private final int[] firstDay = new int[MAX_SPIES];
    private final int[] lastDay = new int[MAX_SPIES];

    Spies() {}

    boolean addSpy(int state, int on, int from, int to) {
      if (count >= MAX_SPIES) {
        return false;
      }
      owner[count] = state;
      victim[count] = on;
      firstDay[count] = from;
      lastDay[count] = to;
      count++;
      return true;
    }

    /** The STATES (bits) that open what a STATE sends home on a DAY. */
    int openersOf(int state, int day) {
      int bits = 0;
      for (int k = 0; k < count && k < MAX_SPIES; k++) {
        if (victim[k] == state && firstDay[k] <= day && day <= lastDay[k]) {
          bits |= 1 << owner[k];
        }
      }
      return bits;
    }
  }

  /** OFFERS and NOTES, a row each; the standing of a NOTE is NONE. */
  private static final class Papers {
    int count = 0;
    private final int[] from = new int[MAX_PAPERS];
    private final int[] to = new int[MAX_PAPERS];
    private final int[] told = new int[MAX_PAPERS];
    private final int[] words = new int[MAX_PAPERS];
    private final int[] openers = new int[MAX_PAPERS];
    private final int[] gives = new int[MAX_PAPERS];
    private final int[] takes = new int[MAX_PAPERS];
    private final int[] till = new int[MAX_PAPERS];
    private final int[] links = new int[MAX_PAPERS];
    /** The first OFFER of its CHAIN: links go back alone, so a CHAIN is all with the same one. */
    private final int[] root = new int[MAX_PAPERS];
    private final int[] standing = new int[MAX_PAPERS];
    private final int[] line = new int[MAX_PAPERS];
    private final int[] answer = new int[MAX_PAPERS];

    Papers() {}

    boolean isFull() {
      return count >= MAX_PAPERS;
    }

    boolean isPaper(int paper) {
      return paper >= 0 && paper < count && paper < MAX_PAPERS;
    }

    boolean isOffer(int paper) {
      return isPaper(paper) && standing[paper] != NONE;
    }

    int addPaper(int fromState, int toState, int day) {
      if (isFull()) {
        return NONE;
      }
      from[count] = fromState;
      to[count] = toState;
      told[count] = day;
      links[count] = NONE;
      root[count] = NONE;
      standing[count] = NONE;
      line[count] = NONE;
      answer[count] = NONE;
      count++;
      return count - 1;
    }

    void makeNote(int paper, int wordOfIt, int openerBits) {
      if (isPaper(paper)) {
        words[paper] = wordOfIt;
        openers[paper] = openerBits;
      }
    }

    void makeOffer(int paper, int given, int taken, int lastDay, int linkedTo) {
      if (isPaper(paper)) {
        gives[paper] = given;
        takes[paper] = taken;
        till[paper] = lastDay;
        links[paper] = linkedTo;
        root[paper] = isPaper(linkedTo) ? root[linkedTo] : paper;
        standing[paper] = PENDING;
      }
    }

    int sender(int paper) {
      return isPaper(paper) ? from[paper] : NONE;
    }

    int receiver(int paper) {
      return isPaper(paper) ? to[paper] : NONE;
    }

    int givenBySender(int paper) {
      return isPaper(paper) ? gives[paper] : 0;
    }

    int givenByReceiver(int paper) {
      return isPaper(paper) ? takes[paper] : 0;
    }

    int lastDayOf(int paper) {
      return isPaper(paper) ? till[paper] : NONE;
    }

    int answerDay(int paper) {
      return isPaper(paper) ? answer[paper] : NONE;
    }

    boolean isLinked(int paper) {
      return isPaper(paper) && links[paper] != NONE;
    }

    boolean inOneChain(int a, int b) {
      return isPaper(a) && isPaper(b) && root[a] == root[b] && root[a] != NONE;
    }

    int standingOf(int paper) {
      return isPaper(paper) ? standing[paper] : NONE;
    }

    void setStanding(int paper, int now) {
      if (isPaper(paper)) {
        standing[paper] = now;
      }
    }

    void setLine(int paper, int n) {
      if (isPaper(paper)) {
        line[paper] = n;
      }
    }

    void setAnswerDay(int paper, int day) {
      if (isPaper(paper)) {
        answer[paper] = day;
      }
    }

    /** Whether it still waits: for an answer, or for its CHAIN. */
    boolean isUnended(int paper) {
      int now = standingOf(paper);
      return now == PENDING || now == ASKED || now == TAKEN;
    }

    int lapseOffersOf(int state) {
      int lapsed = 0;
      for (int k = 0; k < count; k++) {
        if (isUnended(k) && (sender(k) == state || receiver(k) == state)) {
          setStanding(k, LAPSED);
          lapsed++;
        }
      }
      return lapsed;
    }

    int tell(int paper, int what) {
      if (!isPaper(paper)) {
        return NO_SUCH;
      }
      switch (what) {
        case 0:
          return isOffer(paper) ? 0 : 1;
        case 1:
          return told[paper];
        case 2:
          return standing[paper];
        case 3:
          return line[paper];
        case 4:
          return from[paper];
        case 5:
          return to[paper];
        case 6:
          return answer[paper];
        default:
          return NO_SUCH;
      }
    }

    /** From which DAY on a STATE knows it, be it yet to come; NONE: never. */
    int knownDay(int paper, int state) {
      if (!isPaper(paper)) {
        return NONE;
      }
      if (from[paper] == state || to[paper] == state) {
        return told[paper];
      }
      return hasBit(openers[paper], state) ? told[paper] + 1 : NONE;
    }

    int notesKnown(int state, int day, int wordOfThem) {
      int n = 0;
      for (int k = 0; k < count && k < MAX_PAPERS; k++) {
        int since = knownDay(k, state);
        if (!isOffer(k) && words[k] == wordOfThem && since != NONE && since <= day) {
          n++;
        }
      }
      return n;
    }
  }

  /** What the delegates do with OFFERS by their ORDERS, and what becomes of CHAINS. */
  private static final class Delegates {
    private final Realm realm;
    private final Papers papers;
    private final OrdersBook book;
    /** What the NAMES stand for in the OFFER that is looked at, in the order of WORDS. */
    private final long[] view = new long[NAMES];
    private final long[] stack = new long[MAX_KNOTS];
    private int top = 0;

    Delegates(Realm realm, Papers papers, OrdersBook book) {
      this.realm = realm;
      this.papers = papers;
      this.book = book;
    }

    void passDay() {
      realm.today++;
      for (int k = 0; k < papers.count; k++) {
        int now = papers.standingOf(k);
        if (now == PENDING || now == ASKED) {
          answerOffer(k);
        }
      }
      for (int k = 0; k < papers.count; k++) {
        if (papers.standingOf(k) == TAKEN) {
          endChain(k);
        }
      }
    }

    private void answerOffer(int offer) {
      if (realm.today > papers.lastDayOf(offer)
          || !realm.isPresent(papers.sender(offer))
          || !realm.isPresent(papers.receiver(offer))) {
        papers.setStanding(offer, LAPSED);
        return;
      }
      if (papers.standingOf(offer) == PENDING) {
        followLine(offer, firstLine(offer, false));
      }
      if (papers.standingOf(offer) == ASKED && realm.today >= papers.answerDay(offer)) {
        followCourt(offer, firstLine(offer, true));
      }
    }

    private void followLine(int offer, int line) {
      int to = papers.receiver(offer);
      if (!book.isLine(to, line)) {
        return;
      }
      papers.setLine(offer, line);
      int verb = book.verbOf(to, line);
      if (verb == TAKE) {
        papers.setStanding(offer, TAKEN);
      } else if (verb == REFUSE) {
        papers.setStanding(offer, REFUSED);
      } else if (verb == ASK) {
        papers.setStanding(offer, ASKED);
        papers.setAnswerDay(offer, realm.today + 2 * realm.homeOf(to));
      }
    }

    private void followCourt(int offer, int line) {
      if (line == NONE) {
        papers.setStanding(offer, REFUSED);
      } else {
        papers.setStanding(offer, TAKEN);
        papers.setLine(offer, line);
      }
    }

    /** The first line that holds for an OFFER: of home, or of the other verbs. */
    int firstLine(int offer, boolean ofHome) {
      int state = papers.receiver(offer);
      int lines = book.linesOf(state);
      viewOffer(offer);
      for (int line = 0; line < lines; line++) {
        if ((book.verbOf(state, line) == HOME) == ofHome) {
          long value = lineValue(state, line);
          if (value != ERROR && value != 0) {
            return line;
          }
        }
      }
      return NONE;
    }

    void viewOffer(int offer) {
      int to = papers.receiver(offer);
      int gets = papers.givenBySender(offer);
      int gives = papers.givenByReceiver(offer);
      int got = realm.worthOfLands(to, gets);
      int lost = realm.worthOfLands(to, gives);
      int held = realm.landsHeld(to);
      view[0] = got - lost;
      view[1] = got;
      view[2] = lost;
      view[3] = realm.soulsOfLands(gets) - realm.soulsOfLands(gives);
      view[4] = realm.countNear(gets, held & ~gives);
      view[5] = realm.worthOfLands(to, held);
      view[6] = realm.boundOf(to);
      view[7] = realm.rankOf(to);
      view[8] = realm.rankOf(papers.sender(offer));
      view[9] = realm.today;
      view[10] = papers.lastDayOf(offer) - realm.today;
      view[11] = papers.isLinked(offer) ? 1 : 0;
    }

    long lineValue(int state, int line) {
      int end = book.endOf(state, line);
      top = 0;
      for (int k = line > 0 ? book.endOf(state, line - 1) : 0; k < end; k++) {
        long value = codeValue(book.codeAt(state, k));
        if (value == ERROR) {
          return ERROR;
        }
        push(value);
      }
      return pop();
    }

    private long codeValue(int code) {
      if (code >= NUMBER) {
        return code - NUMBER;
      }
      if (code >= FIRST_NAME && code < FIRST_NAME + NAMES) {
        return view[code - FIRST_NAME];
      }
      long right = pop();
      if (code == NOT) {
        return right == 0 ? 1 : 0;
      }
      if (code == NEGATE) {
        return -right;
      }
      long left = pop();
      long value = code >= PLUS && code <= REST ? compute(code, left, right)
          : compares(code, left, right) ? 1 : 0;
      return value > MAX_VALUE || value < -MAX_VALUE ? ERROR : value;
    }

    private static long compute(int sign, long left, long right) {
      switch (sign) {
        case PLUS:
          return left + right;
        case MINUS:
          return left - right;
        case TIMES:
          // Two values of 10 to the 12 would wrap around, so the size is tested by a division.
          return left != 0 && Math.abs(right) > MAX_VALUE / Math.abs(left) ? ERROR : left * right;
        case OVER:
          return right == 0 ? ERROR : left / right;
        default:
          return right == 0 ? ERROR : left % right;
      }
    }

    private static boolean compares(int sign, long left, long right) {
      switch (sign) {
        case AND:
          return left != 0 && right != 0;
        case OR:
          return left != 0 || right != 0;
        case LESS:
          return left < right;
        case LESS_EQUAL:
          return left <= right;
        case EQUAL:
          return left == right;
        case UNEQUAL:
          return left != right;
        case GREATER_EQUAL:
          return left >= right;
        default:
          return left > right;
      }
    }

    private void push(long value) {
      if (top >= 0 && top < MAX_KNOTS) {
        stack[top] = value;
        top++;
      }
    }

    private long pop() {
      if (top < 1 || top > MAX_KNOTS) {
        return 0;
      }
      top--;
      return stack[top];
    }

    private void endChain(int offer) {
      boolean broken = false;
      boolean waiting = false;
      for (int k = 0; k < papers.count; k++) {
        if (papers.inOneChain(offer, k)) {
          int now = papers.standingOf(k);
          broken = broken || now == REFUSED || now == LAPSED || now == VOID;
          waiting = waiting || now == PENDING || now == ASKED;
        }
      }
      if (broken) {
        endAll(offer, VOID);
      } else if (!waiting) {
        carryOut(offer);
      }
    }

    private void endAll(int offer, int end) {
      for (int k = 0; k < papers.count; k++) {
        if (papers.inOneChain(offer, k) && papers.isUnended(k)) {
          papers.setStanding(k, end);
        }
      }
    }

    /** Nothing in the CHAIN waits for an answer, so what is unended is TAKEN. */
    private void carryOut(int offer) {
      if (!canCarryOut(offer)) {
        endAll(offer, VOID);
        return;
      }
      for (int k = 0; k < papers.count; k++) {
        if (papers.inOneChain(offer, k) && papers.standingOf(k) == TAKEN) {
          handOver(papers.givenBySender(k), papers.receiver(k), k);
          handOver(papers.givenByReceiver(k), papers.sender(k), k);
        }
      }
      endAll(offer, BOUND);
    }

    private boolean canCarryOut(int offer) {
      int given = 0;
      for (int k = 0; k < papers.count; k++) {
        if (papers.inOneChain(offer, k) && papers.standingOf(k) == TAKEN) {
          int bySender = papers.givenBySender(k);
          int byReceiver = papers.givenByReceiver(k);
          if ((given & (bySender | byReceiver)) != 0
              || (bySender & ~realm.landsHeld(papers.sender(k))) != 0
              || (byReceiver & ~realm.landsHeld(papers.receiver(k))) != 0) {
            return false;
          }
          given |= bySender | byReceiver;
        }
      }
      return true;
    }

    private void handOver(int lands, int state, int paper) {
      for (int land = 0; land < realm.landCount; land++) {
        if (hasBit(lands, land)) {
          realm.giveLand(land, state, paper);
        }
      }
    }
  }

  /** How two STATES could share all LANDS that they hold now. */
  private static final class Shares {
    private static final int PAIRS = 15;
    /** A LAND counts in the five pairs of its HOLDER alone; 0 needs a place in each row, too. */
    private static final int ROOM = MAX_LANDS * (MAX_STATES - 1) * MAX_WORTH + PAIRS;

    private final Realm realm;
    private int madeAt = NONE;
    private int rivals = 0;
    /** Of a pair: where its row begins, and the most that the first could have: its last place. */
    private final int[] start = new int[PAIRS];
    private final int[] reach = new int[PAIRS];
    /** In a row, at v: the most that the second can have if the first has v or more, or NONE. */
    private int[] most = new int[0];

    Shares(Realm realm) {
      this.realm = realm;
    }

    /**
     * The pairs (bits) that could both have more than they HAVE: where each GETS what it HAS at
     * least, no other two would rather leave.
     */
    int rivalPairs() {
      if (madeAt == realm.changes) {
        return rivals;
      }
      madeAt = realm.changes;
      rivals = 0;
      if (most.length < ROOM) {
        // Many objects never come here, and the table is large.
        most = new int[ROOM];
      }
      int next = 0;
      for (int b = 1; b < realm.stateCount; b++) {
        for (int a = 0; a < b; a++) {
          next = fillRow(next, a, b);
          if (canBothHaveMore(a, b, realm.worthHeld(a), realm.worthHeld(b))) {
            rivals |= 1 << pairOf(a, b);
          }
        }
      }
      return rivals;
    }

    static int pairOf(int a, int b) {
      return b * (b - 1) / 2 + a;
    }

    /** Whether of two rivals, a before b, each could have more than it is told here. */
    boolean canBothHaveMore(int a, int b, int ofA, int ofB) {
      int pair = pairOf(a, b);
      if (a < 0 || a >= b || pair >= PAIRS || ofA < 0 || ofA >= reach[pair]) {
        return false;
      }
      int at = start[pair] + ofA + 1;
      return at >= 0 && at < most.length && most[at] > ofB;
    }

    /** Makes the row of two STATES from a place on; answers where the next row begins. */
    private int fillRow(int first, int a, int b) {
      int pair = pairOf(a, b);
      int both = realm.landsHeld(a) | realm.landsHeld(b);
      int last = first + realm.worthOfLands(a, both);
      if (pair < 0 || pair >= PAIRS || first < 0 || last >= most.length) {
        return first;
      }
      start[pair] = first;
      reach[pair] = last - first;
      for (int at = first; at <= last; at++) {
        most[at] = at == first ? 0 : NONE;
      }
      int end = first;
      for (int land = 0; land < MAX_LANDS; land++) {
        if (hasBit(both, land)) {
          end += realm.worthOf(a, land);
          addLand(first, end, realm.worthOf(a, land), realm.worthOf(b, land));
        }
      }
      for (int at = last - 1; at >= first; at--) {
        most[at] = Math.max(most[at], most[at + 1]);
      }
      return last + 1;
    }

    /** The LAND may be the second's, or the first's; so far the row goes from a place to an end. */
    private void addLand(int first, int end, int worthForA, int worthForB) {
      if (first < 0 || end >= most.length || worthForA < 0) {
        return;
      }
      for (int at = end; at >= first; at--) {
        int ifB = most[at] == NONE ? NONE : most[at] + worthForB;
        int ifA = at - worthForA >= first ? most[at - worthForA] : NONE;
        most[at] = ifA > ifB ? ifA : ifB;
      }
    }
  }

  /** Goes through all SETTLEMENTS among some STATES. */
  private static final class Settlements {
    private static final int MOST_SETTLEMENTS = 6561;

    private final Realm realm;
    private final Shares shares;
    private int states = 0;
    private int searchedStates = NONE;
    private int searchedAt = NONE;
    private int disputed = 0;
    private final int[] lands = new int[MAX_DISPUTED];
    private final int[] claimants = new int[MAX_DISPUTED];
    private final int[] choice = new int[MAX_DISPUTED];
    private final int[] gets = new int[MAX_STATES];
    private final int[] hasNow = new int[MAX_STATES];
    private final int[] bounds = new int[MAX_STATES];
    /** The STATES (bits) that GET their BOUND. */
    private int kept = 0;
    private int all = 0;
    private int fair = 0;
    private int stable = 0;
    /** Bit m: some SETTLEMENT keeps the BOUNDS of just the STATES with the bits m. */
    private long keptSets = 0;
    /** No gain of a FAIR one is below 0, so NONE: there is no BEST. */
    private int bestGain = NONE;
    private int bestSum = 0;
    private final int[] bestChoice = new int[MAX_DISPUTED];

    Settlements(Realm realm, Shares shares) {
      this.realm = realm;
      this.shares = shares;
    }

    void search(int among) {
      if (searchedStates == among && searchedAt == realm.changes) {
        return;
      }
      searchedStates = among;
      searchedAt = realm.changes;
      all = 0;
      fair = 0;
      stable = 0;
      keptSets = 0;
      bestGain = NONE;
      prepare(among);
      if (isSpent()) {
        return;
      }
      for (int k = 0; k < disputed && k < MAX_DISPUTED; k++) {
        choose(k, nextClaimant(k, NONE));
      }
      boolean more = true;
      for (int n = 0; n < MOST_SETTLEMENTS && more; n++) {
        weigh();
        more = goOn();
      }
    }

    private boolean isSpent() {
      return disputed > MAX_DISPUTED;
    }

    /** Finds the DISPUTED LANDS, and what each STATE GETS of the others. */
    private void prepare(int among) {
      states = among;
      kept = 0;
      disputed = 0;
      int fixed = 0;
      for (int land = 0; land < realm.landCount; land++) {
        if (!realm.isDisputed(land, among)) {
          fixed |= 1 << land;
        } else {
          if (disputed < MAX_DISPUTED) {
            lands[disputed] = land;
            claimants[disputed] = realm.claimsOf(land) & among;
            choice[disputed] = NONE;
          }
          disputed++;
        }
      }
      for (int s = 0; s < MAX_STATES; s++) {
        int held = realm.landsHeld(s);
        hasNow[s] = realm.worthOfLands(s, held);
        bounds[s] = realm.boundOf(s);
        gets[s] = 0;
        addToGets(s, realm.worthOfLands(s, held & fixed));
      }
    }

    private int nextClaimant(int k, int behind) {
      if (k < 0 || k >= MAX_DISPUTED) {
        return NONE;
      }
      for (int s = behind + 1; s < MAX_STATES; s++) {
        if (((claimants[k] >> s) & 1) != 0) {
          return s;
        }
      }
      return NONE;
    }

    private void choose(int k, int state) {
      if (k < 0 || k >= MAX_DISPUTED) {
        return;
      }
      addToGets(choice[k], -realm.worthOf(choice[k], lands[k]));
      addToGets(state, realm.worthOf(state, lands[k]));
      choice[k] = state;
    }

    private void addToGets(int state, int n) {
      if (state < 0 || state >= MAX_STATES) {
        return;
      }
      gets[state] += n;
      if (gets[state] >= bounds[state]) {
        kept |= states & (1 << state);
      } else {
        kept &= ~(1 << state);
      }
    }

    /** The next SETTLEMENT by STATES of LANDS in order; false: that was the last one. */
    private boolean goOn() {
      for (int k = Math.min(disputed, MAX_DISPUTED) - 1; k >= 0; k--) {
        int next = nextClaimant(k, choice[k]);
        if (next != NONE) {
          choose(k, next);
          return true;
        }
        choose(k, nextClaimant(k, NONE));
      }
      return false;
    }

    private void weigh() {
      all++;
      keptSets |= 1L << kept;
      if (kept != states) {
        return;
      }
      fair++;
      if (isStable()) {
        stable++;
        keepIfBetter();
      }
    }

    private boolean isStable() {
      for (int s = 0; s < MAX_STATES; s++) {
        if (hasBit(states, s) && hasNow[s] > gets[s]) {
          return false;
        }
      }
      int rivals = shares.rivalPairs();
      for (int b = 1; b < MAX_STATES && rivals != 0; b++) {
        for (int a = 0; a < b; a++) {
          if (hasBit(rivals, Shares.pairOf(a, b))
              && hasBit(states, a)
              && hasBit(states, b)
              && shares.canBothHaveMore(a, b, gets[a], gets[b])) {
            return false;
          }
        }
      }
      return true;
    }

    private void keepIfBetter() {
      int least = MAX_LANDS * MAX_WORTH;
      int sum = 0;
      for (int s = 0; s < MAX_STATES; s++) {
        if (hasBit(states, s)) {
          least = Math.min(least, gets[s] - bounds[s]);
          sum += gets[s];
        }
      }
      boolean better = least > bestGain || (least == bestGain && sum > bestSum);
      if (states == 0 || !better) {
        return;
      }
      bestGain = least;
      bestSum = sum;
      for (int k = 0; k < MAX_DISPUTED; k++) {
        bestChoice[k] = choice[k];
      }
    }

    int howMany(int what) {
      if (isSpent()) {
        return NONE;
      }
      switch (what) {
        case 1:
          return all;
        case 2:
          return fair;
        case 3:
          return stable;
        default:
          return NONE;
      }
    }

    int tellBest(int what) {
      if (bestGain == NONE) {
        return NONE;
      }
      if (what == MAX_LANDS) {
        return bestGain;
      }
      return what == MAX_LANDS + 1 ? bestSum : bestHolder(what);
    }

    private int bestHolder(int land) {
      for (int k = 0; k < disputed && k < MAX_DISPUTED; k++) {
        if (lands[k] == land) {
          return bestChoice[k];
        }
      }
      return realm.holderOf(land);
    }

    int fewestAtOdds() {
      if (isSpent()) {
        return NONE;
      }
      if (fair > 0) {
        return 0;
      }
      for (int size = 1; size <= MAX_STATES; size++) {
        for (int group = 1; group < 1 << MAX_STATES; group++) {
          if (Integer.bitCount(group) == size && (group & ~states) == 0 && !canKeep(group)) {
            return group;
          }
        }
      }
      return 0;
    }

    private boolean canKeep(int group) {
      for (int set = 0; set < 1 << MAX_STATES; set++) {
        if (((keptSets >>> set) & 1L) != 0 && (group & ~set) == 0) {
          return true;
        }
      }
      return false;
    }

    int judgeRow(int among, int row) {
      prepare(among);
      if (isSpent()) {
        return NONE;
      }
      for (int k = 0; k < disputed && k < MAX_DISPUTED; k++) {
        int state = (row >>> (3 * k)) & 7;
        if (!hasBit(claimants[k], state)) {
          return 0;
        }
        choose(k, state);
      }
      if (kept != states) {
        return 1;
      }
      return isStable() ? 3 : 2;
    }
  }

  /** The SWAP: the shortest ring of exchanges. */
  private static final class Ring {
    /** Far above what six STATES with twelve LANDS can need. */
    private static final int MOST_STEPS = 100000;

    private final Realm realm;
    private final int[] members = new int[MAX_RING];
    private final int[] lands = new int[MAX_RING];
    private int length = 0;
    private int foundAt = NONE;

    Ring(Realm realm) {
      this.realm = realm;
    }

    void find() {
      if (foundAt == realm.changes) {
        return;
      }
      foundAt = realm.changes;
      length = 0;
      for (int size = 2; size <= MAX_RING && length == 0; size++) {
        if (findMembers(size)) {
          length = size;
        }
      }
    }

    int tell(int what) {
      if (what == 0) {
        return length;
      }
      if (what >= 1 && what <= MAX_RING) {
        return what <= length ? members[what - 1] : NONE;
      }
      int k = what - 1 - MAX_RING;
      return k >= 0 && k < MAX_RING && k < length ? lands[k] : NONE;
    }

    /** Tries the rings of a size by STATES in order: a step sets one place, or goes one back. */
    private boolean findMembers(int size) {
      int k = 0;
      members[0] = NONE;
      for (int step = 0; step < MOST_STEPS && k >= 0 && k < MAX_RING; step++) {
        members[k] = nextMember(k);
        if (members[k] == NONE) {
          k--;
        } else if (k < size - 1 && k + 1 < MAX_RING) {
          k++;
          // The first one is the least, so all others come behind it.
          members[k] = members[0];
        } else if (findLands(size)) {
          return true;
        }
      }
      return false;
    }

    private int nextMember(int k) {
      if (k < 0 || k >= MAX_RING) {
        return NONE;
      }
      for (int s = members[k] + 1; s < MAX_STATES; s++) {
        if (realm.isPresent(s) && !isMember(s, k)) {
          return s;
        }
      }
      return NONE;
    }

    private boolean isMember(int state, int size) {
      for (int k = 0; k < size && k < MAX_RING; k++) {
        if (members[k] == state) {
          return true;
        }
      }
      return false;
    }

    /** Tries the LANDS that the members could give, in order, in the same manner. */
    private boolean findLands(int size) {
      int k = 0;
      lands[0] = NONE;
      for (int step = 0; step < MOST_STEPS && k >= 0 && k < MAX_RING; step++) {
        lands[k] = nextLand(k);
        if (lands[k] == NONE) {
          k--;
        } else if (k < size - 1 && k + 1 < MAX_RING) {
          k++;
          lands[k] = NONE;
        } else if (gains(members[0], lands[k], lands[0])) {
          return true;
        }
      }
      return false;
    }

    private int nextLand(int k) {
      if (k < 0 || k >= MAX_RING) {
        return NONE;
      }
      int held = realm.landsHeld(members[k]);
      for (int land = lands[k] + 1; land < MAX_LANDS; land++) {
        if (hasBit(held, land) && (k == 0 || gains(members[k], lands[k - 1], land))) {
          return land;
        }
      }
      return NONE;
    }

    private boolean gains(int state, int got, int given) {
      return realm.worthOf(state, got) > realm.worthOf(state, given);
    }
  }

  /** ARTICLES with their DRAFTS, what they HANG on, and RESERVES. */
  private static final class Articles {
    private static final int SIDE = MAX_DRAFT + 1;

    int count = 0;
    private final Realm realm;
    private final int[] lengths = new int[MAX_ARTICLES * MAX_STATES];
    private final int[] words = new int[MAX_ARTICLES * MAX_STATES * MAX_DRAFT];
    private final int[] hangsOn = new int[MAX_ARTICLES];
    private final int[] reserves = new int[MAX_ARTICLES];
    /** The two DRAFTS that are compared. */
    private final int[] left = new int[MAX_DRAFT];
    private final int[] right = new int[MAX_DRAFT];
    /** At (i, j): the DISTANCE of what is left of the one from i on and of the other from j on. */
    private final int[] steps = new int[SIDE * SIDE];
    private final int[] sums = new int[MAX_STATES];
    /** Of each WORD of the BASE, by how many DRAFTS it is HELD. */
    private final int[] held = new int[MAX_DRAFT];

    Articles(Realm realm) {
      this.realm = realm;
    }

    boolean isArticle(int article) {
      return article >= 0 && article < count && article < MAX_ARTICLES;
    }

    int addArticle() {
      if (count >= MAX_ARTICLES) {
        return NONE;
      }
      count++;
      return count - 1;
    }

    /** How many WORDS; 0: there is no such DRAFT. */
    int draftLength(int article, int state) {
      if (!isArticle(article) || !realm.isState(state)) {
        return 0;
      }
      return lengths[article * MAX_STATES + state];
    }

    int dropDraft(int article, int state) {
      if (isArticle(article) && realm.isState(state)) {
        lengths[article * MAX_STATES + state] = 0;
      }
      return 0;
    }

    int addWord(int article, int state, int wordOfIt) {
      if (!isArticle(article) || !realm.isState(state)) {
        return NONE;
      }
      int row = article * MAX_STATES + state;
      int n = lengths[row];
      if (n < 0 || n >= MAX_DRAFT) {
        return NONE;
      }
      words[row * MAX_DRAFT + n] = wordOfIt;
      lengths[row] = n + 1;
      return n + 1;
    }

    private int wordAt(int article, int state, int k) {
      if (article < 0 || article >= MAX_ARTICLES || state < 0 || state >= MAX_STATES) {
        return 0;
      }
      if (k < 0 || k >= MAX_DRAFT) {
        return 0;
      }
      return words[(article * MAX_STATES + state) * MAX_DRAFT + k];
    }

    boolean setHanging(int article, int on, boolean is) {
      if (!isArticle(article) || hasBit(hangsOn[article], on) == is) {
        return false;
      }
      hangsOn[article] ^= 1 << on;
      return true;
    }

    boolean setReserve(int article, int state, boolean is) {
      if (!isArticle(article) || hasBit(reserves[article], state) == is) {
        return false;
      }
      reserves[article] ^= 1 << state;
      return true;
    }

    private boolean hasPresentDraft(int article, int state) {
      return realm.isPresent(state) && draftLength(article, state) > 0;
    }

    private int presentDrafts(int article) {
      int n = 0;
      for (int s = 0; s < MAX_STATES; s++) {
        if (hasPresentDraft(article, s)) {
          n++;
        }
      }
      return n;
    }

    /** The DISTANCE of two DRAFTS; both, and the steps from each two places on, stay at hand. */
    int stepsBetween(int article, int a, int b) {
      for (int k = 0; k < MAX_DRAFT; k++) {
        left[k] = wordAt(article, a, k);
        right[k] = wordAt(article, b, k);
      }
      int rows = Math.min(draftLength(article, a), MAX_DRAFT);
      int columns = Math.min(draftLength(article, b), MAX_DRAFT);
      for (int i = rows; i >= 0; i--) {
        for (int j = columns; j >= 0; j--) {
          int least = rows - i + columns - j;
          if (i < rows && j < columns) {
            int change = (left[i] == right[j] ? 0 : 1) + steps[(i + 1) * SIDE + j + 1];
            int other = 1 + Math.min(steps[(i + 1) * SIDE + j], steps[i * SIDE + j + 1]);
            least = Math.min(change, other);
          }
          steps[i * SIDE + j] = least;
        }
      }
      return steps[0];
    }

    /** The STATE whose DRAFT is the BASE. */
    int baseOf(int article) {
      for (int s = 0; s < MAX_STATES; s++) {
        sums[s] = 0;
      }
      for (int b = 1; b < MAX_STATES; b++) {
        for (int a = 0; a < b; a++) {
          if (hasPresentDraft(article, a) && hasPresentDraft(article, b)) {
            int n = stepsBetween(article, a, b);
            sums[a] += n;
            sums[b] += n;
          }
        }
      }
      int base = NONE;
      for (int s = 0; s < MAX_STATES; s++) {
        if (hasPresentDraft(article, s) && isBetterBase(s, base)) {
          base = s;
        }
      }
      return base;
    }

    private boolean isBetterBase(int state, int than) {
      if (state < 0 || state >= MAX_STATES || than < 0 || than >= MAX_STATES) {
        return true;
      }
      if (sums[state] != sums[than]) {
        return sums[state] < sums[than];
      }
      return realm.rankOf(state) < realm.rankOf(than);
    }

    private void countHeld(int article, int base) {
      for (int k = 0; k < MAX_DRAFT; k++) {
        held[k] = 0;
      }
      for (int s = 0; s < MAX_STATES; s++) {
        if (hasPresentDraft(article, s)) {
          stepsBetween(article, base, s);
          addHeld(draftLength(article, base), draftLength(article, s));
        }
      }
    }

    /** Goes the way from the BASE to the DRAFT that was compared with it just now. */
    private void addHeld(int rows, int columns) {
      int i = 0;
      int j = 0;
      // Behind the end of the DRAFT nothing of the BASE is kept.
      for (int n = 0; n < 2 * MAX_DRAFT; n++) {
        if (i >= rows || i >= MAX_DRAFT || j >= columns || j >= MAX_DRAFT) {
          return;
        }
        int here = steps[i * SIDE + j];
        int change = left[i] == right[j] ? 0 : 1;
        if (here == change + steps[(i + 1) * SIDE + j + 1]) {
          held[i] += 1 - change;
          i++;
          j++;
        } else if (here == 1 + steps[(i + 1) * SIDE + j]) {
          i++;
        } else {
          j++;
        }
      }
    }

    private static int agreement(int heldBy, int drafts) {
      if (heldBy == drafts) {
        return 2;
      }
      return 2 * heldBy <= drafts ? 0 : 1;
    }

    private boolean isOpenByItself(int article) {
      int base = baseOf(article);
      countHeld(article, base);
      int drafts = presentDrafts(article);
      int length = draftLength(article, base);
      for (int k = 0; k < length && k < MAX_DRAFT; k++) {
        if (agreement(held[k], drafts) == 0) {
          return true;
        }
      }
      return drafts == 0;
    }

    boolean isOpen(int article) {
      int open = 0;
      for (int k = 0; k < count; k++) {
        if (isOpenByItself(k)) {
          open |= 1 << k;
        }
      }
      // It starts with those alone, so a ring doesn't make itself OPEN; and it comes through
      // all other ARTICLES at most.
      for (int round = 0; round < MAX_ARTICLES; round++) {
        for (int k = 0; k < count && k < MAX_ARTICLES; k++) {
          if ((hangsOn[k] & open) != 0) {
            open |= 1 << k;
          }
        }
      }
      return hasBit(open, article);
    }

    /** Among how many it STANDS if it isn't OPEN. */
    int signersOf(int article) {
      if (!isArticle(article)) {
        return 0;
      }
      int n = Integer.bitCount(realm.present & ~reserves[article]);
      return n >= 2 ? n : 0;
    }

    int tellWord(int article, int k, int what) {
      int base = baseOf(article);
      if (k < 0 || k >= MAX_DRAFT || k >= draftLength(article, base)) {
        return NONE;
      }
      countHeld(article, base);
      switch (what) {
        case 0:
          return wordAt(article, base, k);
        case 1:
          return held[k];
        case 2:
          return agreement(held[k], presentDrafts(article));
        default:
          return NONE;
      }
    }
  }
}
