import java.util.ArrayList;
import java.util.Arrays;
import java.util.HashSet;
import java.util.List;
import java.util.NoSuchElementException;
import java.util.Random;
import java.util.Set;
import java.util.TreeSet;

/**
 * Plays long runs of calls on PowersHouse and on a second house that is written as plainly as the
 * document's words go (a parser that calls itself, chains by closure, settlements and shares by
 * going through all of them), and compares every answer. The runs are drawn from fixed seeds.
 */
public final class PlainModelTest {
  private static final int HOUSES = 700;
  private static int wrong = 0;
  private static long calls = 0;

  public static void main(String[] args) {
    int houses = args.length > 0 ? Integer.parseInt(args[0]) : HOUSES;
    int first = args.length > 1 ? Integer.parseInt(args[1]) : 0;
    for (int seed = first; seed < first + houses && wrong < 10; seed++) {
      new Play(seed).play();
    }
    System.out.println(calls + " calls compared with the plain model, " + wrong + " differ");
    if (wrong != 0) {
      System.exit(1);
    }
  }

  // ---------------------------------------------------------------- the plain model

  private static final class Fault extends RuntimeException {
    private static final long serialVersionUID = 1L;
    final int kind;
    final int place;

    Fault(int kind, int place) {
      this.kind = kind;
      this.place = place;
    }
  }

  private static final class Err extends RuntimeException {
    private static final long serialVersionUID = 1L;
  }

  private static final class Node {
    final String op;
    final Node a;
    final Node b;

    Node(String op, Node a, Node b) {
      this.op = op;
      this.a = a;
      this.b = b;
    }
  }

  private static final class Line {
    String verb;
    Node e;
  }

  private static final class Tok {
    String text;
    int place;
    boolean bad;
    boolean number;
    boolean end;
  }

  private static final Set<String> VERBS = Set.of("take", "refuse", "ask", "home");
  private static final Set<String> NAMES =
      Set.of("gain", "got", "lost", "souls", "near", "mine", "bound", "rank", "other", "day",
          "left", "linked");
  private static final Set<String> COMPARE = Set.of("<", "<=", "=", "<>", ">=", ">");

  private static final class Parser {
    final List<Tok> toks = new ArrayList<>();
    int at = 0;
    int knots = 0;
    int open = 0;

    Parser(int[] text) {
      int i = 0;
      while (true) {
        while (i < text.length && (text[i] == 10 || text[i] == 32)) {
          i++;
        }
        Tok t = new Tok();
        t.place = i;
        toks.add(t);
        if (i >= text.length) {
          t.end = true;
          t.text = "";
          return;
        }
        int j = i;
        char c = (char) text[i];
        if (c >= 'a' && c <= 'z') {
          while (j < text.length && text[j] >= 'a' && text[j] <= 'z') {
            j++;
          }
        } else if (c >= '0' && c <= '9') {
          t.number = true;
          while (j < text.length && text[j] >= '0' && text[j] <= '9') {
            j++;
          }
        } else {
          j++;
          if ((c == '<' || c == '>') && j < text.length
              && (text[j] == '=' || (c == '<' && text[j] == '>'))) {
            j++;
          }
        }
        StringBuilder sb = new StringBuilder();
        for (int k = i; k < j; k++) {
          sb.append((char) text[k]);
        }
        t.text = sb.toString();
        boolean word = c >= 'a' && c <= 'z';
        boolean known = VERBS.contains(t.text) || NAMES.contains(t.text)
            || Set.of("and", "or", "not").contains(t.text);
        t.bad = word ? !known : !t.number && !COMPARE.contains(t.text)
            && !Set.of("+", "-", "*", "/", "%", "(", ")", ";").contains(t.text);
        i = j;
      }
    }

    Tok peek() {
      return toks.get(at);
    }

    boolean is(String s) {
      return !peek().end && !peek().bad && !peek().number && peek().text.equals(s);
    }

    Fault cannot() {
      return new Fault(1, peek().place);
    }

    void knot() {
      if (++knots > 64) {
        throw new Fault(2, peek().place);
      }
    }

    void expect(String s) {
      if (!is(s)) {
        throw cannot();
      }
      at++;
    }

    List<Line> text() {
      List<Line> lines = new ArrayList<>();
      while (!peek().end) {
        if (!VERBS.contains(peek().text)) {
          throw cannot();
        }
        if (lines.size() == 16) {
          throw new Fault(2, peek().place);
        }
        Line l = new Line();
        l.verb = peek().text;
        at++;
        l.e = e();
        expect(";");
        lines.add(l);
      }
      return lines;
    }

    Node e() {
      Node n = a();
      while (is("or")) {
        knot();
        at++;
        n = new Node("or", n, a());
      }
      return n;
    }

    Node a() {
      Node n = b();
      while (is("and")) {
        knot();
        at++;
        n = new Node("and", n, b());
      }
      return n;
    }

    Node b() {
      if (is("not")) {
        knot();
        at++;
        return new Node("not", b(), null);
      }
      Node n = s();
      if (!peek().end && COMPARE.contains(peek().text)) {
        String op = peek().text;
        knot();
        at++;
        n = new Node(op, n, s());
      }
      return n;
    }

    Node s() {
      Node n = t();
      while (is("+") || is("-")) {
        String op = peek().text;
        knot();
        at++;
        n = new Node(op, n, t());
      }
      return n;
    }

    Node t() {
      Node n = u();
      while (is("*") || is("/") || is("%")) {
        String op = peek().text;
        knot();
        at++;
        n = new Node(op, n, u());
      }
      return n;
    }

    Node u() {
      if (is("-")) {
        knot();
        at++;
        return new Node("neg", u(), null);
      }
      Tok p = peek();
      if (p.end || p.bad) {
        throw cannot();
      }
      if (p.number) {
        if (new java.math.BigInteger(p.text).compareTo(java.math.BigInteger.valueOf(99999)) > 0) {
          throw new Fault(2, p.place);
        }
        knot();
        at++;
        return new Node("#" + p.text, null, null);
      }
      if (NAMES.contains(p.text)) {
        knot();
        at++;
        return new Node(p.text, null, null);
      }
      if (is("(")) {
        if (open == 8) {
          throw new Fault(2, p.place);
        }
        open++;
        at++;
        Node n = e();
        expect(")");
        open--;
        return n;
      }
      throw cannot();
    }
  }

  private static final class Land {
    int souls;
    int holder = -1;
    final Set<Integer> claims = new TreeSet<>();
    final Set<Integer> near = new HashSet<>();
    final List<int[]> way = new ArrayList<>();
  }

  private static final class State {
    int rank;
    int home;
    int bound;
    final int[] worth = new int[12];
    boolean present = true;
    List<Line> orders = new ArrayList<>();
  }

  private static final class Paper {
    boolean offer;
    int from;
    int to;
    int day;
    int word;
    int gives;
    int takes;
    int till;
    int links;
    String status = "PENDING";
    int line = -1;
    int answer = -1;
    final Set<Integer> openers = new HashSet<>();
  }

  private static final List<String> STATUS =
      List.of("PENDING", "ASKED", "TAKEN", "REFUSED", "LAPSED", "BOUND", "VOID");

  private static final class Article {
    final List<List<Integer>> drafts = new ArrayList<>();
    final Set<Integer> hangs = new HashSet<>();
    final Set<Integer> reserves = new HashSet<>();

    Article() {
      for (int i = 0; i < 6; i++) {
        drafts.add(new ArrayList<>());
      }
    }
  }

  private static final class Plain {
    final List<Integer> tape = new ArrayList<>();
    int fault = 0;
    int faultPlace = -1;
    final List<Land> lands = new ArrayList<>();
    final List<State> states = new ArrayList<>();
    final List<Paper> papers = new ArrayList<>();
    final List<int[]> spies = new ArrayList<>();
    final List<Article> articles = new ArrayList<>();
    int today = 0;

    boolean isL(int l) {
      return l >= 0 && l < lands.size();
    }

    boolean isS(int s) {
      return s >= 0 && s < states.size();
    }

    boolean isP(int s) {
      return isS(s) && states.get(s).present;
    }

    boolean isOffer(int p) {
      return p >= 0 && p < papers.size() && papers.get(p).offer;
    }

    int feed(int... n) {
      if (tape.size() + 20 > 400) {
        return -1;
      }
      for (int v : n) {
        for (int k = 3; k >= 0; k--) {
          tape.add((v >>> (8 * k)) & 255);
        }
      }
      return tape.size();
    }

    int orders(int n, int s) {
      if (n < 0 || n > tape.size() || !isS(s)) {
        return -2;
      }
      int[] text = new int[n];
      for (int i = 0; i < n; i++) {
        text[i] = tape.get(i);
      }
      tape.clear();
      try {
        states.get(s).orders = new Parser(text).text();
      } catch (Fault f) {
        fault = f.kind;
        faultPlace = f.place;
        return -1;
      }
      fault = 0;
      faultPlace = -1;
      return states.get(s).orders.size();
    }

    int fault(int what) {
      return what == 0 ? fault : what == 1 ? faultPlace : -1;
    }

    int land(int souls) {
      if (souls < 1 || souls > 9999 || lands.size() == 12) {
        return -1;
      }
      Land l = new Land();
      l.souls = souls;
      lands.add(l);
      return lands.size() - 1;
    }

    boolean near(int a, int b) {
      if (!isL(a) || !isL(b) || a == b || lands.get(a).near.contains(b)) {
        return false;
      }
      lands.get(a).near.add(b);
      lands.get(b).near.add(a);
      return true;
    }

    int state(int rank, int home) {
      if (rank < 0 || rank > 99 || home < 0 || home > 9 || states.size() == 6) {
        return -1;
      }
      State s = new State();
      s.rank = rank;
      s.home = home;
      states.add(s);
      return states.size() - 1;
    }

    void give(int l, int s, int paper) {
      lands.get(l).holder = s;
      lands.get(l).way.add(new int[] {s, today, paper});
    }

    boolean hold(int l, int s) {
      if (!isL(l) || (s != -1 && !isP(s)) || lands.get(l).holder == s
          || lands.get(l).way.size() >= 20) {
        return false;
      }
      give(l, s, -1);
      return true;
    }

    boolean claim(int l, int s, boolean on) {
      if (!isL(l) || !isS(s) || lands.get(l).claims.contains(s) == on) {
        return false;
      }
      if (on && lands.get(l).claims.size() == 3) {
        return false;
      }
      return on ? lands.get(l).claims.add(s) : lands.get(l).claims.remove(s);
    }

    boolean worth(int s, int l, int n) {
      if (!isS(s) || !isL(l) || n < 0 || n > 99) {
        return false;
      }
      states.get(s).worth[l] = n;
      return true;
    }

    boolean bound(int s, int n) {
      if (!isS(s) || n < 0 || n > 999) {
        return false;
      }
      states.get(s).bound = n;
      return true;
    }

    int offer(int from, int to, int gives, int takes, int till, int links) {
      int all = (1 << lands.size()) - 1;
      if (!isP(from) || !isP(to) || from == to || (gives == 0 && takes == 0)
          || (gives & takes) != 0 || (gives & all) != gives || (takes & all) != takes
          || till < today || till > 300 || papers.size() == 60
          || (links != -1 && !isOffer(links))) {
        return -1;
      }
      Paper p = new Paper();
      p.offer = true;
      p.from = from;
      p.to = to;
      p.day = today;
      p.gives = gives;
      p.takes = takes;
      p.till = till;
      p.links = links;
      papers.add(p);
      return papers.size() - 1;
    }

    int note(int from, int to, int word) {
      if (!isP(from) || !isP(to) || word < 1 || word > 99 || papers.size() == 60) {
        return -1;
      }
      Paper p = new Paper();
      p.from = from;
      p.to = to;
      p.day = today;
      p.word = word;
      for (int[] spy : spies) {
        if (from == to && spy[1] == from && spy[2] <= today && today <= spy[3]) {
          p.openers.add(spy[0]);
        }
      }
      papers.add(p);
      return papers.size() - 1;
    }

    boolean spy(int s, int on, int from, int to) {
      if (!isS(s) || !isS(on) || s == on || from < today || from > to || to > 300
          || spies.size() == 20) {
        return false;
      }
      return spies.add(new int[] {s, on, from, to});
    }

    int days(int n) {
      if (n < 1 || n > 50 || today + n > 300) {
        return -1;
      }
      for (int i = 0; i < n; i++) {
        day();
      }
      return today;
    }

    void day() {
      today++;
      for (Paper p : papers) {
        if (p.offer && (p.status.equals("PENDING") || p.status.equals("ASKED"))) {
          answer(p);
        }
      }
      for (int i = 0; i < papers.size(); i++) {
        if (papers.get(i).offer && papers.get(i).status.equals("TAKEN")) {
          chain(i);
        }
      }
    }

    void answer(Paper p) {
      if (today > p.till || !isP(p.from) || !isP(p.to)) {
        p.status = "LAPSED";
        return;
      }
      List<Line> o = states.get(p.to).orders;
      if (p.status.equals("PENDING")) {
        int k = first(p, Set.of("take", "refuse", "ask"));
        if (k >= 0) {
          p.line = k;
          if (o.get(k).verb.equals("take")) {
            p.status = "TAKEN";
          } else if (o.get(k).verb.equals("refuse")) {
            p.status = "REFUSED";
          } else {
            p.status = "ASKED";
            p.answer = today + states.get(p.to).home + states.get(p.to).home;
          }
        }
      }
      if (p.status.equals("ASKED") && p.answer <= today) {
        int k = first(p, Set.of("home"));
        p.status = k >= 0 ? "TAKEN" : "REFUSED";
        p.line = k >= 0 ? k : p.line;
      }
    }

    int first(Paper p, Set<String> verbs) {
      List<Line> o = states.get(p.to).orders;
      for (int k = 0; k < o.size(); k++) {
        if (verbs.contains(o.get(k).verb)) {
          long v = value(p, o.get(k));
          if (v != Long.MIN_VALUE && v != 0) {
            return k;
          }
        }
      }
      return -1;
    }

    long value(Paper p, Line l) {
      try {
        return eval(p, l.e);
      } catch (Err e) {
        return Long.MIN_VALUE;
      }
    }

    long eval(Paper p, Node n) {
      if (n.op.startsWith("#")) {
        return Long.parseLong(n.op.substring(1));
      }
      if (n.a == null) {
        return name(p, n.op);
      }
      java.math.BigInteger x = java.math.BigInteger.valueOf(eval(p, n.a));
      java.math.BigInteger y = n.b == null ? null : java.math.BigInteger.valueOf(eval(p, n.b));
      java.math.BigInteger zero = java.math.BigInteger.ZERO;
      java.math.BigInteger r;
      switch (n.op) {
        case "not": return x.equals(zero) ? 1 : 0;
        case "and": return !x.equals(zero) && !y.equals(zero) ? 1 : 0;
        case "or": return !x.equals(zero) || !y.equals(zero) ? 1 : 0;
        case "<": return x.compareTo(y) < 0 ? 1 : 0;
        case "<=": return x.compareTo(y) <= 0 ? 1 : 0;
        case "=": return x.compareTo(y) == 0 ? 1 : 0;
        case "<>": return x.compareTo(y) != 0 ? 1 : 0;
        case ">=": return x.compareTo(y) >= 0 ? 1 : 0;
        case ">": return x.compareTo(y) > 0 ? 1 : 0;
        case "neg": r = x.negate(); break;
        case "+": r = x.add(y); break;
        case "-": r = x.subtract(y); break;
        case "*": r = x.multiply(y); break;
        default:
          if (y.equals(zero)) {
            throw new Err();
          }
          r = n.op.equals("/") ? x.divide(y) : x.remainder(y);
      }
      if (r.abs().compareTo(java.math.BigInteger.TEN.pow(12)) > 0) {
        throw new Err();
      }
      return r.longValue();
    }

    long name(Paper p, String name) {
      State s = states.get(p.to);
      int got = 0;
      int lost = 0;
      int souls = 0;
      int near = 0;
      for (int l = 0; l < lands.size(); l++) {
        if ((p.gives >> l & 1) == 1) {
          got += s.worth[l];
          souls += lands.get(l).souls;
          boolean n = false;
          for (int m : lands.get(l).near) {
            n |= lands.get(m).holder == p.to && (p.takes >> m & 1) == 0;
          }
          near += n ? 1 : 0;
        }
        if ((p.takes >> l & 1) == 1) {
          lost += s.worth[l];
          souls -= lands.get(l).souls;
        }
      }
      switch (name) {
        case "gain": return got - lost;
        case "got": return got;
        case "lost": return lost;
        case "souls": return souls;
        case "near": return near;
        case "mine": return has(p.to);
        case "bound": return s.bound;
        case "rank": return s.rank;
        case "other": return states.get(p.from).rank;
        case "day": return today;
        case "left": return p.till - today;
        default: return p.links >= 0 ? 1 : 0;
      }
    }

    void chain(int i) {
      Set<Integer> c = new TreeSet<>();
      c.add(i);
      boolean more = true;
      while (more) {
        more = false;
        for (int k = 0; k < papers.size(); k++) {
          Paper p = papers.get(k);
          if (p.offer && p.links >= 0) {
            if (c.contains(k)) {
              more |= c.add(p.links);
            }
            if (c.contains(p.links)) {
              more |= c.add(k);
            }
          }
        }
      }
      boolean broken = false;
      boolean waits = false;
      for (int k : c) {
        String st = papers.get(k).status;
        broken |= Set.of("REFUSED", "LAPSED", "VOID").contains(st);
        waits |= Set.of("PENDING", "ASKED").contains(st);
      }
      if (broken) {
        for (int k : c) {
          if (Set.of("PENDING", "ASKED", "TAKEN").contains(papers.get(k).status)) {
            papers.get(k).status = "VOID";
          }
        }
      } else if (!waits) {
        List<int[]> moves = new ArrayList<>();
        Set<Integer> moved = new HashSet<>();
        boolean ok = true;
        for (int k : c) {
          Paper p = papers.get(k);
          for (int l = 0; l < lands.size() && p.status.equals("TAKEN"); l++) {
            boolean gives = (p.gives >> l & 1) == 1;
            if (gives || (p.takes >> l & 1) == 1) {
              ok &= moved.add(l) && lands.get(l).holder == (gives ? p.from : p.to);
              moves.add(new int[] {l, gives ? p.to : p.from, k});
            }
          }
        }
        for (int[] m : moves) {
          papers.get(m[2]).status = ok ? "BOUND" : "VOID";
          if (ok) {
            give(m[0], m[1], m[2]);
          }
        }
      }
    }

    int paper(int p, int what) {
      if (p < 0 || p >= papers.size()) {
        return -2;
      }
      Paper x = papers.get(p);
      switch (what) {
        case 0: return x.offer ? 0 : 1;
        case 1: return x.day;
        case 2: return x.offer ? STATUS.indexOf(x.status) : -1;
        case 3: return x.line;
        case 4: return x.from;
        case 5: return x.to;
        case 6: return x.answer;
        default: return -2;
      }
    }

    int why(int p) {
      return isOffer(p) ? first(papers.get(p), Set.of("take", "refuse", "ask")) : -1;
    }

    long tries(int p, int line) {
      if (!isOffer(p) || line < 0 || line >= states.get(papers.get(p).to).orders.size()) {
        return Long.MIN_VALUE;
      }
      return value(papers.get(p), states.get(papers.get(p).to).orders.get(line));
    }

    int known(int p, int s) {
      if (p < 0 || p >= papers.size() || !isS(s)) {
        return -1;
      }
      Paper x = papers.get(p);
      if (x.from == s || x.to == s) {
        return x.day;
      }
      return x.openers.contains(s) && x.day + 1 <= today ? x.day + 1 : -1;
    }

    int heard(int s, int day, int word) {
      if (!isS(s) || day < 0 || day > today || word < 1 || word > 99) {
        return -1;
      }
      int n = 0;
      for (int p = 0; p < papers.size(); p++) {
        int k = known(p, s);
        n += !papers.get(p).offer && papers.get(p).word == word && k >= 0 && k <= day ? 1 : 0;
      }
      return n;
    }

    int has(int s) {
      if (!isS(s)) {
        return -1;
      }
      int sum = 0;
      for (int l = 0; l < lands.size(); l++) {
        sum += lands.get(l).holder == s ? states.get(s).worth[l] : 0;
      }
      return sum;
    }

    // settlements among the states for which in[] is true

    boolean[] presence() {
      boolean[] in = new boolean[6];
      for (int s = 0; s < states.size(); s++) {
        in[s] = states.get(s).present;
      }
      return in;
    }

    List<Integer> disputed(boolean[] in) {
      List<Integer> d = new ArrayList<>();
      for (int l = 0; l < lands.size(); l++) {
        int n = 0;
        for (int s : lands.get(l).claims) {
          n += in[s] ? 1 : 0;
        }
        if (n >= 2) {
          d.add(l);
        }
      }
      return d;
    }

    void all(boolean[] in, List<Integer> d, int k, int[] row, List<int[]> out) {
      if (k == d.size()) {
        out.add(row.clone());
        return;
      }
      for (int s : lands.get(d.get(k)).claims) {
        if (in[s]) {
          row[k] = s;
          all(in, d, k + 1, row, out);
        }
      }
    }

    int[] gets(List<Integer> d, int[] row) {
      int[] g = new int[6];
      for (int l = 0; l < lands.size(); l++) {
        int k = d.indexOf(l);
        int s = k >= 0 ? row[k] : lands.get(l).holder;
        if (s >= 0) {
          g[s] += states.get(s).worth[l];
        }
      }
      return g;
    }

    boolean fair(boolean[] in, int[] g) {
      for (int s = 0; s < 6; s++) {
        if (in[s] && g[s] < states.get(s).bound) {
          return false;
        }
      }
      return true;
    }

    boolean stable(boolean[] in, int[] g) {
      if (!fair(in, g)) {
        return false;
      }
      for (int s = 0; s < 6; s++) {
        if (in[s] && has(s) > g[s]) {
          return false;
        }
      }
      for (int a = 0; a < 6; a++) {
        for (int b = a + 1; b < 6; b++) {
          if (in[a] && in[b] && blocks(a, b, g)) {
            return false;
          }
        }
      }
      return true;
    }

    boolean blocks(int a, int b, int[] g) {
      List<Integer> pool = new ArrayList<>();
      for (int l = 0; l < lands.size(); l++) {
        if (lands.get(l).holder == a || lands.get(l).holder == b) {
          pool.add(l);
        }
      }
      for (int m = 0; m < 1 << pool.size(); m++) {
        int x = 0;
        int y = 0;
        for (int k = 0; k < pool.size(); k++) {
          if ((m >> k & 1) == 1) {
            x += states.get(a).worth[pool.get(k)];
          } else {
            y += states.get(b).worth[pool.get(k)];
          }
        }
        if (x > g[a] && y > g[b]) {
          return true;
        }
      }
      return false;
    }

    int settle(int what) {
      boolean[] in = presence();
      List<Integer> d = disputed(in);
      if (what == 0) {
        return d.size();
      }
      if (what < 0 || what > 3 || d.size() > 8) {
        return -1;
      }
      List<int[]> rows = new ArrayList<>();
      all(in, d, 0, new int[8], rows);
      int fair = 0;
      int stable = 0;
      for (int[] r : rows) {
        int[] g = gets(d, r);
        fair += fair(in, g) ? 1 : 0;
        stable += what == 3 && stable(in, g) ? 1 : 0;
      }
      return what == 1 ? rows.size() : what == 2 ? fair : stable;
    }

    int bestAmong(boolean[] in, int what) {
      List<Integer> d = disputed(in);
      if (d.size() > 8 || !(in[0] || in[1] || in[2] || in[3] || in[4] || in[5])) {
        return -1;
      }
      List<int[]> rows = new ArrayList<>();
      all(in, d, 0, new int[8], rows);
      int[] best = null;
      int bestLeast = 0;
      int bestSum = 0;
      for (int[] r : rows) {
        int[] g = gets(d, r);
        if (!stable(in, g)) {
          continue;
        }
        int least = 99999;
        int sum = 0;
        for (int s = 0; s < 6; s++) {
          if (in[s]) {
            least = Math.min(least, g[s] - states.get(s).bound);
            sum += g[s];
          }
        }
        if (best == null || least > bestLeast || (least == bestLeast && sum > bestSum)) {
          best = r;
          bestLeast = least;
          bestSum = sum;
        }
      }
      if (best == null) {
        return -1;
      }
      if (what == 12) {
        return bestLeast;
      }
      if (what == 13) {
        return bestSum;
      }
      if (!isL(what)) {
        return -1;
      }
      return d.contains(what) ? best[d.indexOf(what)] : lands.get(what).holder;
    }

    int without(int s, int what) {
      if (!isP(s)) {
        return -1;
      }
      boolean[] in = presence();
      in[s] = false;
      return bestAmong(in, what);
    }

    int core() {
      boolean[] in = presence();
      List<Integer> d = disputed(in);
      if (d.size() > 8) {
        return -1;
      }
      List<int[]> rows = new ArrayList<>();
      all(in, d, 0, new int[8], rows);
      List<int[]> got = new ArrayList<>();
      for (int[] r : rows) {
        int[] g = gets(d, r);
        if (fair(in, g)) {
          return 0;
        }
        got.add(g);
      }
      int best = 0;
      for (int m = 1; m < 64; m++) {
        boolean sub = true;
        for (int s = 0; s < 6; s++) {
          sub &= (m >> s & 1) == 0 || in[s];
        }
        if (!sub || (best != 0 && Integer.bitCount(best) <= Integer.bitCount(m))) {
          continue;
        }
        boolean kept = false;
        for (int[] g : got) {
          boolean all = true;
          for (int s = 0; s < 6; s++) {
            all &= (m >> s & 1) == 0 || g[s] >= states.get(s).bound;
          }
          kept |= all;
        }
        best = kept ? best : m;
      }
      return best;
    }

    int judge(int row) {
      boolean[] in = presence();
      List<Integer> d = disputed(in);
      if (d.size() > 8) {
        return -1;
      }
      int[] r = new int[8];
      for (int k = 0; k < d.size(); k++) {
        r[k] = (row >> (3 * k)) & 7;
        if (!lands.get(d.get(k)).claims.contains(r[k]) || !in[r[k]]) {
          return 0;
        }
      }
      int[] g = gets(d, r);
      return stable(in, g) ? 3 : fair(in, g) ? 2 : 1;
    }

    int swap(int what) {
      int[] found = null;
      for (int n = 2; n <= 4 && found == null; n++) {
        found = ring(n);
      }
      if (what == 0) {
        return found == null ? 0 : found.length / 2;
      }
      if (found == null || what < 0 || what > 8) {
        return -1;
      }
      int n = found.length / 2;
      int k = what <= 4 ? what - 1 : what - 5;
      return k >= n ? -1 : what <= 4 ? found[k] : found[n + k];
    }

    int[] ring(int n) {
      int total = (int) Math.pow(6, n);
      for (int code = 0; code < total; code++) {
        int[] r = new int[n];
        int c = code;
        for (int k = n - 1; k >= 0; k--) {
          r[k] = c % 6;
          c /= 6;
        }
        Set<Integer> distinct = new HashSet<>();
        boolean ok = true;
        for (int s : r) {
          ok &= distinct.add(s) && isP(s) && s >= r[0];
        }
        if (!ok) {
          continue;
        }
        int[] found = ringLands(r, new ArrayList<>());
        if (found != null) {
          return found;
        }
      }
      return null;
    }

    int[] ringLands(int[] r, List<Integer> given) {
      if (given.size() == r.length) {
        int[] out = Arrays.copyOf(r, r.length * 2);
        for (int k = 0; k < r.length; k++) {
          int gets = given.get((k + r.length - 1) % r.length);
          if (states.get(r[k]).worth[gets] <= states.get(r[k]).worth[given.get(k)]) {
            return null;
          }
          out[r.length + k] = given.get(k);
        }
        return out;
      }
      for (int l = 0; l < lands.size(); l++) {
        if (lands.get(l).holder == r[given.size()]) {
          given.add(l);
          int[] f = ringLands(r, given);
          given.remove(given.size() - 1);
          if (f != null) {
            return f;
          }
        }
      }
      return null;
    }

    // articles

    boolean isA(int a) {
      return a >= 0 && a < articles.size();
    }

    int article() {
      if (articles.size() == 8) {
        return -1;
      }
      articles.add(new Article());
      return articles.size() - 1;
    }

    int draft(int a, int s, int w) {
      if (!isA(a) || !isP(s) || w < 0 || w > 99) {
        return -1;
      }
      List<Integer> d = articles.get(a).drafts.get(s);
      if (w == 0) {
        d.clear();
        return 0;
      }
      if (d.size() == 8) {
        return -1;
      }
      d.add(w);
      return d.size();
    }

    boolean hang(int a, int on, boolean is) {
      if (!isA(a) || !isA(on) || a == on || articles.get(a).hangs.contains(on) == is) {
        return false;
      }
      return is ? articles.get(a).hangs.add(on) : articles.get(a).hangs.remove(on);
    }

    boolean reserve(int a, int s, boolean is) {
      if (!isA(a) || !isP(s) || articles.get(a).reserves.contains(s) == is) {
        return false;
      }
      return is ? articles.get(a).reserves.add(s) : articles.get(a).reserves.remove(s);
    }

    /** By rows from the front, unlike the class under test, which goes from the back. */
    static int dist(List<Integer> x, List<Integer> y) {
      int[] row = new int[y.size() + 1];
      for (int j = 0; j <= y.size(); j++) {
        row[j] = j;
      }
      for (int i = 1; i <= x.size(); i++) {
        int[] next = new int[y.size() + 1];
        next[0] = i;
        for (int j = 1; j <= y.size(); j++) {
          int change = row[j - 1] + (x.get(i - 1).equals(y.get(j - 1)) ? 0 : 1);
          next[j] = Math.min(change, 1 + Math.min(row[j], next[j - 1]));
        }
        row = next;
      }
      return row[y.size()];
    }

    int distance(int a, int s, int t) {
      if (!isA(a) || !isS(s) || !isS(t) || articles.get(a).drafts.get(s).isEmpty()
          || articles.get(a).drafts.get(t).isEmpty()) {
        return -1;
      }
      return dist(articles.get(a).drafts.get(s), articles.get(a).drafts.get(t));
    }

    List<Integer> drafters(int a) {
      List<Integer> d = new ArrayList<>();
      for (int s = 0; s < states.size(); s++) {
        if (isP(s) && !articles.get(a).drafts.get(s).isEmpty()) {
          d.add(s);
        }
      }
      return d;
    }

    int base(int a) {
      int best = -1;
      int bestSum = 0;
      for (int s : drafters(a)) {
        int sum = 0;
        for (int t : drafters(a)) {
          sum += distance(a, s, t);
        }
        if (best < 0 || sum < bestSum
            || (sum == bestSum && states.get(s).rank < states.get(best).rank)) {
          best = s;
          bestSum = sum;
        }
      }
      return best;
    }

    /** Which words of x are kept on the way to y. */
    static boolean[] kept(List<Integer> x, List<Integer> y) {
      boolean[] k = new boolean[x.size()];
      int i = 0;
      int j = 0;
      while (i < x.size() || j < y.size()) {
        int here = dist(x.subList(i, x.size()), y.subList(j, y.size()));
        if (i < x.size() && j < y.size()) {
          boolean same = x.get(i).equals(y.get(j));
          int then = dist(x.subList(i + 1, x.size()), y.subList(j + 1, y.size()));
          if (then + (same ? 0 : 1) == here) {
            k[i] = same;
            i++;
            j++;
            continue;
          }
        }
        if (i < x.size()
            && dist(x.subList(i + 1, x.size()), y.subList(j, y.size())) + 1 == here) {
          i++;
        } else {
          j++;
        }
      }
      return k;
    }

    int heldBy(int a, int k) {
      int n = 0;
      for (int s : drafters(a)) {
        n += kept(articles.get(a).drafts.get(base(a)), articles.get(a).drafts.get(s))[k] ? 1 : 0;
      }
      return n;
    }

    int wordState(int a, int k) {
      int n = drafters(a).size();
      int h = heldBy(a, k);
      return h == n ? 2 : h + h <= n ? 0 : 1;
    }

    boolean open(int a, Set<Integer> seen) {
      if (!seen.add(a)) {
        return false;
      }
      if (base(a) < 0) {
        return true;
      }
      for (int k = 0; k < articles.get(a).drafts.get(base(a)).size(); k++) {
        if (wordState(a, k) == 0) {
          return true;
        }
      }
      for (int on : articles.get(a).hangs) {
        if (open(on, seen)) {
          return true;
        }
      }
      return false;
    }

    int laid(int a, int what) {
      if (!isA(a)) {
        return -1;
      }
      int b = base(a);
      switch (what) {
        case 0: return b;
        case 1: return b < 0 ? 0 : articles.get(a).drafts.get(b).size();
        case 2: return open(a, new HashSet<>()) ? 1 : 0;
        case 3:
          int n = 0;
          for (int s = 0; s < states.size(); s++) {
            n += isP(s) && !articles.get(a).reserves.contains(s) ? 1 : 0;
          }
          return open(a, new HashSet<>()) || n < 2 ? 0 : n;
        default: return -1;
      }
    }

    int word(int a, int k, int what) {
      if (!isA(a) || base(a) < 0 || k < 0 || k >= laid(a, 1)) {
        return -1;
      }
      switch (what) {
        case 0: return articles.get(a).drafts.get(base(a)).get(k);
        case 1: return heldBy(a, k);
        case 2: return wordState(a, k);
        default: return -1;
      }
    }

    int leave(int s) {
      if (!isP(s)) {
        return -1;
      }
      states.get(s).present = false;
      int n = 0;
      for (Paper p : papers) {
        if (p.offer && (p.from == s || p.to == s)
            && Set.of("PENDING", "ASKED", "TAKEN").contains(p.status)) {
          p.status = "LAPSED";
          n++;
        }
      }
      return n;
    }

    int way(int l, int k, int what) {
      if (!isL(l) || k < 0 || k >= lands.get(l).way.size() || what < 0 || what > 2) {
        return -2;
      }
      return lands.get(l).way.get(k)[what];
    }

    int look(int l, int what) {
      if (!isL(l)) {
        throw new IndexOutOfBoundsException();
      }
      int bits = 0;
      for (int s : lands.get(l).claims) {
        bits |= 1 << s;
      }
      switch (what) {
        case 0: return lands.get(l).souls;
        case 1: return lands.get(l).holder;
        case 2: return bits;
        default: throw new NoSuchElementException();
      }
    }

    int count(int what) {
      int bits = 0;
      for (int s = 0; s < states.size(); s++) {
        bits |= isP(s) ? 1 << s : 0;
      }
      int souls = 0;
      for (Land l : lands) {
        souls += l.holder >= 0 ? l.souls : 0;
      }
      int[] all = {lands.size(), states.size(), bits, papers.size(), today, articles.size(),
          spies.size(), souls};
      return what >= 0 && what < all.length ? all[what] : -1;
    }
  }

  // ---------------------------------------------------------------- the runs

  private static final class Play {
    final int seed;
    final Random r;
    final PowersHouse x = new PowersHouse();
    final Plain y = new Plain();
    final StringBuilder log = new StringBuilder();
    /** What a run is mostly about, how large its settlements may grow, how wild its numbers are. */
    final int theme;
    final int maxClaims;
    final int wildness;
    int made = 0;
    boolean stop = false;

    Play(int seed) {
      this.seed = seed;
      r = new Random(seed * 7919L + 13);
      theme = r.nextInt(4);
      maxClaims = r.nextInt(12) == 0 ? 40 : 6 + r.nextInt(9);
      wildness = r.nextInt(3) == 0 ? 6 : 25;
    }

    void same(String call, long got, long want) {
      calls++;
      made++;
      log.append(call).append(" = ").append(want).append('\n');
      if (got != want) {
        wrong++;
        stop = true;
        System.out.println("seed " + seed + ":\n" + log + "  but it answered " + got);
      }
    }

    int num(int bound) {
      if (r.nextInt(wildness) == 0) {
        int[] odd = {-1, -2, bound, bound + 1, Integer.MAX_VALUE, Integer.MIN_VALUE, 31, 32, 64};
        return odd[r.nextInt(odd.length)];
      }
      return bound <= 0 ? 0 : r.nextInt(bound);
    }

    int landNo() {
      return num(Math.max(1, y.lands.size()));
    }

    int stateNo() {
      return num(Math.max(1, y.states.size()));
    }

    int paperNo() {
      return num(Math.max(1, y.papers.size()));
    }

    int articleNo() {
      return num(Math.max(1, y.articles.size()));
    }

    int inclusive(int low, int high) {
      if (r.nextInt(wildness) == 0) {
        int[] odd = {low - 1, high + 1, low, high, Integer.MAX_VALUE, Integer.MIN_VALUE};
        return odd[r.nextInt(odd.length)];
      }
      return low + r.nextInt(high - low + 1);
    }

    void play() {
      boolean few = r.nextInt(6) == 0;
      int lands = few ? r.nextInt(4) : 4 + r.nextInt(9);
      int states = few ? r.nextInt(3) : 2 + r.nextInt(5);
      for (int k = 0; k < lands; k++) {
        land();
      }
      for (int k = 0; k < states; k++) {
        state();
      }
      for (int k = 0; k < lands; k++) {
        if (r.nextInt(8) != 0) {
          hold();
        }
      }
      for (int k = 0; k < lands * states; k++) {
        worth();
      }
      for (int s = 0; s < states && theme == 0; s++) {
        String[] texts = {"take gain>=0; refuse gain<0-20; ask 1; home gain>0-40;",
            "ask 1; home left>3 or linked;", "take 1;", "take near or day%2=0; ask other>50;",
            "take linked; take gain>0; ask souls>0; home mine<bound; home rank>other;"};
        tell(new StringBuilder(texts[r.nextInt(texts.length)]), s);
      }
      while (made < 505 && !stop) {
        switch (r.nextInt(7)) {
          case 0:
            common();
            break;
          case 1:
            anything();
            break;
          default:
            if (theme == 0) {
              offers();
            } else if (theme == 1) {
              settlements();
            } else if (theme == 2) {
              articles();
            } else {
              anything();
            }
        }
      }
    }

    void anything() {
      switch (r.nextInt(3)) {
        case 0:
          offers();
          break;
        case 1:
          settlements();
          break;
        default:
          articles();
      }
    }

    void land() {
      int n = inclusive(1, 9999);
      same("land(" + n + ")", x.land(n), y.land(n));
    }

    void state() {
      int a = inclusive(0, 99);
      int b = r.nextInt(3) == 0 ? inclusive(0, 9) : inclusive(0, 2);
      same("state(" + a + ", " + b + ")", x.state(a, b), y.state(a, b));
    }

    void hold() {
      int a = landNo();
      int b = r.nextInt(12) == 0 ? -1 : stateNo();
      same("hold(" + a + ", " + b + ")", x.hold(a, b) ? 1 : 0, y.hold(a, b) ? 1 : 0);
    }

    void worth() {
      int a = stateNo();
      int b = landNo();
      int c = r.nextBoolean() ? inclusive(0, 99) : inclusive(0, 5);
      same("worth(" + a + ", " + b + ", " + c + ")", x.worth(a, b, c) ? 1 : 0,
          y.worth(a, b, c) ? 1 : 0);
    }

    void common() {
      int a;
      int b;
      switch (r.nextInt(9)) {
        case 0:
          land();
          break;
        case 1:
          state();
          break;
        case 2:
          hold();
          break;
        case 3:
          worth();
          break;
        case 4:
          a = landNo();
          b = landNo();
          same("near(" + a + ", " + b + ")", x.near(a, b) ? 1 : 0, y.near(a, b) ? 1 : 0);
          break;
        case 5:
          a = num(8);
          same("count(" + a + ")", x.count(a), y.count(a));
          break;
        case 6:
          look();
          break;
        case 7:
          if (r.nextInt(6) == 0) {
            a = stateNo();
            same("leave(" + a + ")", x.leave(a), y.leave(a));
          }
          break;
        default:
          a = stateNo();
          same("has(" + a + ")", x.has(a), y.has(a));
      }
    }

    void look() {
      int a = landNo();
      int b = num(3);
      long got;
      long want;
      try {
        got = x.look(a, b);
      } catch (IndexOutOfBoundsException e) {
        got = -101;
      } catch (NoSuchElementException e) {
        got = -102;
      }
      try {
        want = y.look(a, b);
      } catch (IndexOutOfBoundsException e) {
        want = -101;
      } catch (NoSuchElementException e) {
        want = -102;
      }
      same("look(" + a + ", " + b + ")", got, want);
    }

    void offers() {
      int a = paperNo();
      int b;
      int c;
      switch (r.nextInt(16)) {
        case 0:
        case 1:
        case 2:
          offer();
          break;
        case 3:
          orders();
          break;
        case 4:
          b = r.nextInt(4) == 0 ? inclusive(1, 50) : inclusive(1, 2);
          same("days(" + b + ")", x.days(b), y.days(b));
          break;
        case 5:
        case 6:
          b = num(7);
          same("paper(" + a + ", " + b + ")", x.paper(a, b), y.paper(a, b));
          for (int k = 0; k < y.papers.size() && r.nextInt(5) == 0; k++) {
            same("paper(" + k + ", 2)", x.paper(k, 2), y.paper(k, 2));
            same("paper(" + k + ", 3)", x.paper(k, 3), y.paper(k, 3));
          }
          break;
        case 7:
          same("why(" + a + ")", x.why(a), y.why(a));
          break;
        case 8:
          b = num(4);
          same("tries(" + a + ", " + b + ")", x.tries(a, b), y.tries(a, b));
          break;
        case 9:
          b = stateNo();
          same("known(" + a + ", " + b + ")", x.known(a, b), y.known(a, b));
          break;
        case 10:
          a = stateNo();
          b = num(y.today + 1);
          c = inclusive(1, 3);
          same("heard(" + a + ", " + b + ", " + c + ")", x.heard(a, b, c), y.heard(a, b, c));
          break;
        case 11:
          a = stateNo();
          b = r.nextBoolean() ? a : stateNo();
          c = r.nextInt(9) == 0 ? inclusive(1, 99) : inclusive(1, 3);
          same("note(" + a + ", " + b + ", " + c + ")", x.note(a, b, c), y.note(a, b, c));
          break;
        case 12:
          spy();
          break;
        case 13:
          a = landNo();
          b = num(Math.max(1, y.isL(a) ? y.lands.get(a).way.size() : 1));
          c = num(3);
          same("way(" + a + ", " + b + ", " + c + ")", x.way(a, b, c), y.way(a, b, c));
          break;
        case 14:
          hold();
          break;
        default:
          a = num(2);
          same("fault(" + a + ")", x.fault(a), y.fault(a));
      }
    }

    void spy() {
      int a = stateNo();
      int b = stateNo();
      int c = r.nextInt(5) == 0 ? inclusive(0, 300) : y.today + r.nextInt(3);
      int d = r.nextInt(5) == 0 ? inclusive(0, 300) : c + r.nextInt(20);
      same("spy(" + a + ", " + b + ", " + c + ", " + d + ")", x.spy(a, b, c, d) ? 1 : 0,
          y.spy(a, b, c, d) ? 1 : 0);
    }

    void offer() {
      int a = stateNo();
      int b = y.states.size() > 1 && r.nextInt(5) != 0
          ? (a + 1 + r.nextInt(y.states.size() - 1)) % y.states.size() : stateNo();
      int gives = 0;
      int takes = 0;
      for (int l = 0; l < y.lands.size(); l++) {
        int h = y.lands.get(l).holder;
        boolean odd = r.nextInt(40) == 0;
        if ((h == a && r.nextInt(3) == 0) || odd) {
          gives |= 1 << l;
        } else if ((h == b && r.nextInt(3) == 0) || odd) {
          takes |= 1 << l;
        }
      }
      if (r.nextInt(wildness) == 0) {
        gives = r.nextInt();
      }
      int till = r.nextInt(6) == 0 ? inclusive(0, 300) : y.today + r.nextInt(25);
      int links = r.nextInt(3) == 0 ? paperNo() : -1;
      same("offer(" + a + ", " + b + ", " + gives + ", " + takes + ", " + till + ", " + links + ")",
          x.offer(a, b, gives, takes, till, links), y.offer(a, b, gives, takes, till, links));
    }

    void orders() {
      StringBuilder sb = new StringBuilder();
      int lines = r.nextInt(10) == 0 ? 15 + r.nextInt(4) : 1 + r.nextInt(4);
      for (int k = 0; k < lines; k++) {
        String[] verbs = {"take ", "take ", "refuse ", "ask ", "home "};
        sb.append(verbs[r.nextInt(verbs.length)]);
        if (lines > 9 || r.nextInt(4) == 0) {
          sb.append(r.nextInt(2));
        } else {
          expression(sb, r.nextInt(5));
        }
        sb.append(r.nextBoolean() ? ";" : " ;\n");
      }
      if (r.nextInt(12) == 0) {
        sb.setLength(0);
        sb.append("take 1");
        int n = 20 + r.nextInt(24);
        for (int k = 0; k < n; k++) {
          sb.append("+-*".charAt(r.nextInt(3))).append(r.nextInt(3) == 0 ? "-1" : "gain");
        }
        sb.append(';');
      }
      mutate(sb);
      tell(sb, stateNo());
    }

    void tell(StringBuilder sb, int s) {
      int n = Math.min(sb.length(), 400);
      while (sb.length() % 20 != 0) {
        sb.append(' ');
      }
      for (int k = 0; k + 20 <= sb.length() && k < 420; k += 20) {
        int[] five = new int[5];
        for (int i = 0; i < 20; i++) {
          five[i / 4] = five[i / 4] << 8 | sb.charAt(k + i) & 255;
        }
        same("feed " + sb.substring(k, k + 20).replace('\n', '~'),
            x.feed(five[0], five[1], five[2], five[3], five[4]), y.feed(five));
      }
      int m = r.nextInt(15) == 0 ? inclusive(0, y.tape.size()) : n;
      same("orders(" + m + ", " + s + ")", x.orders(m, s), y.orders(m, s));
      same("fault(0)", x.fault(0), y.fault(0));
      same("fault(1)", x.fault(1), y.fault(1));
    }

    void mutate(StringBuilder sb) {
      int times = r.nextInt(3) == 0 ? 1 + r.nextInt(3) : 0;
      String chars = "()<>=+-*/%; \n0189abt,A\u0080\u00ff\t";
      String[] words = {"and", "or", "not", "take", "gain", "linked", "home", "100000", "99999",
          "000000000007", "4294967296", "<>", "<=", ">=", "((((((((", "))))))))"};
      for (int k = 0; k < times && sb.length() > 0; k++) {
        int at = r.nextInt(sb.length());
        switch (r.nextInt(4)) {
          case 0:
            sb.deleteCharAt(at);
            break;
          case 1:
            sb.insert(at, chars.charAt(r.nextInt(chars.length())));
            break;
          case 2:
            sb.insert(at, " " + words[r.nextInt(words.length)] + " ");
            break;
          default:
            sb.setCharAt(at, chars.charAt(r.nextInt(chars.length())));
        }
      }
    }

    void expression(StringBuilder sb, int depth) {
      String[] names = {"gain", "got", "lost", "souls", "near", "mine", "bound", "rank", "other",
          "day", "left", "linked"};
      int kind = depth <= 0 ? r.nextInt(2) : 2 + r.nextInt(7);
      String[] arithmetic = {"+", "-", "*", "/", "%", " + ", "-", "*"};
      String[] compare = {"<", "<=", "=", "<>", ">=", ">"};
      switch (kind) {
        case 0:
          sb.append(r.nextInt(6) == 0 ? r.nextInt(100000) : r.nextInt(12));
          break;
        case 1:
          sb.append(names[r.nextInt(names.length)]);
          break;
        case 2:
        case 3:
          expression(sb, depth - 1);
          sb.append(arithmetic[r.nextInt(arithmetic.length)]);
          expression(sb, depth - 2);
          break;
        case 4:
          expression(sb, depth - 2);
          sb.append(compare[r.nextInt(compare.length)]);
          expression(sb, depth - 2);
          break;
        case 5:
          expression(sb, depth - 1);
          sb.append(r.nextBoolean() ? " and " : " or ");
          expression(sb, depth - 1);
          break;
        case 6:
          sb.append("not ");
          expression(sb, depth - 1);
          break;
        case 7:
          sb.append('-');
          expression(sb, depth - 2);
          break;
        default:
          sb.append('(');
          expression(sb, depth - 1);
          sb.append(')');
      }
    }

    void settlements() {
      int a = landNo();
      int b = stateNo();
      switch (r.nextInt(14)) {
        case 0:
        case 1:
        case 2:
          boolean on = r.nextInt(4) != 0;
          if (on && y.isL(a) && y.lands.get(a).holder >= 0 && r.nextInt(3) == 0) {
            b = y.lands.get(a).holder;
          }
          int n = 0;
          for (Land l : y.lands) {
            n += l.claims.size();
          }
          if (!on || n < maxClaims) {
            same("claim(" + a + ", " + b + ", " + on + ")", x.claim(a, b, on) ? 1 : 0,
                y.claim(a, b, on) ? 1 : 0);
          }
          break;
        case 3:
          int[] most = {0, 2, 5, 20, 60, 120};
          int c = r.nextInt(20) == 0 ? inclusive(0, 999) : inclusive(0, most[r.nextInt(6)]);
          same("bound(" + b + ", " + c + ")", x.bound(b, c) ? 1 : 0, y.bound(b, c) ? 1 : 0);
          break;
        case 4:
          c = num(4);
          same("settle(" + c + ")", x.settle(c), y.settle(c));
          break;
        case 5:
        case 6:
          c = num(14);
          same("best(" + c + ")", x.best(c), y.bestAmong(y.presence(), c));
          same("best(12)", x.best(12), y.bestAmong(y.presence(), 12));
          same("settle(3)", x.settle(3), y.settle(3));
          break;
        case 7:
          c = num(14);
          same("without(" + b + ", " + c + ")", x.without(b, c), y.without(b, c));
          break;
        case 8:
          same("core()", x.core(), y.core());
          break;
        case 9:
        case 10:
          c = row();
          same("judge(" + c + ")", x.judge(c), y.judge(c));
          break;
        case 11:
          for (int k = 0; k < 9; k++) {
            same("swap(" + k + ")", x.swap(k), y.swap(k));
          }
          c = num(9);
          same("swap(" + c + ")", x.swap(c), y.swap(c));
          break;
        case 12:
          hold();
          break;
        default:
          worth();
      }
    }

    int row() {
      if (r.nextInt(6) == 0) {
        return r.nextInt();
      }
      int row = r.nextInt(3) == 0 ? -1 << 24 : 0;
      List<Integer> d = y.disputed(y.presence());
      for (int k = 0; k < d.size() && k < 8; k++) {
        List<Integer> c = new ArrayList<>(y.lands.get(d.get(k)).claims);
        row |= c.get(r.nextInt(c.size())) << (3 * k);
      }
      return row;
    }

    void articles() {
      int a = articleNo();
      int b = stateNo();
      int c;
      boolean is = r.nextInt(3) != 0;
      switch (r.nextInt(13)) {
        case 0:
          if (y.articles.size() < 2 || r.nextInt(6) == 0) {
            same("article()", x.article(), y.article());
          }
          break;
        case 1:
        case 2:
        case 3:
        case 4:
          for (int k = r.nextInt(5); k >= 0; k--) {
            c = r.nextInt(25) == 0 ? 0 : r.nextInt(12) == 0 ? inclusive(1, 99) : 1 + r.nextInt(4);
            same("draft(" + a + ", " + b + ", " + c + ")", x.draft(a, b, c), y.draft(a, b, c));
          }
          break;
        case 5:
          c = articleNo();
          same("hang(" + a + ", " + c + ", " + is + ")", x.hang(a, c, is) ? 1 : 0,
              y.hang(a, c, is) ? 1 : 0);
          break;
        case 6:
          same("reserve(" + a + ", " + b + ", " + is + ")", x.reserve(a, b, is) ? 1 : 0,
              y.reserve(a, b, is) ? 1 : 0);
          break;
        case 7:
          c = stateNo();
          same("distance(" + a + ", " + b + ", " + c + ")", x.distance(a, b, c),
              y.distance(a, b, c));
          break;
        case 8:
        case 9:
          c = num(4);
          same("laid(" + a + ", " + c + ")", x.laid(a, c), y.laid(a, c));
          break;
        case 10:
          // An ARTICLE with several whole DRAFTS, so that the BASE has something to choose from.
          for (int s = 0; s < y.states.size() && y.isA(a); s++) {
            same("draft(" + a + ", " + s + ", 0)", x.draft(a, s, 0), y.draft(a, s, 0));
            for (int k = r.nextInt(6); k >= 0; k--) {
              c = 1 + r.nextInt(3);
              same("draft(" + a + ", " + s + ", " + c + ")", x.draft(a, s, c), y.draft(a, s, c));
            }
          }
          break;
        default:
          int k = num(5);
          c = num(3);
          same("word(" + a + ", " + k + ", " + c + ")", x.word(a, k, c), y.word(a, k, c));
      }
    }
  }
}
