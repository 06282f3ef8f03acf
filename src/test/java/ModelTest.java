import java.math.BigInteger;
import java.util.ArrayDeque;
import java.util.ArrayList;
import java.util.Arrays;
import java.util.Collections;
import java.util.HashMap;
import java.util.HashSet;
import java.util.List;
import java.util.Map;
import java.util.NoSuchElementException;
import java.util.Random;
import java.util.Set;
import java.util.TreeSet;

/** Random runs of calls, each answered by DealtSea and by a second, slower telling of the document. */
public final class ModelTest {
  private static int wrong = 0;
  private static final Map<String, Integer> asked = new HashMap<>();

  /** The document once more, by lists and plain trying out. */
  static final class Model {
    static final List<String> GOODS = List.of("sheep", "fish", "wool", "salt");
    static final List<String> KINDS = List.of("plain", "marked", "joker");
    static final Set<String> RESERVED = Set.of("sea", "island", "family", "wish", "shows");

    static final class Fault extends RuntimeException {
      private static final long serialVersionUID = 1L;
      final int number;
      final int place;
      Fault(int number, int place) { super(null, null, false, false); this.number = number; this.place = place; }
    }

    static final class Sea {
      int wide, high, trumps, tide;
      List<int[]> islands = new ArrayList<>();
      List<Integer> plan = new ArrayList<>();
      List<int[]> wishes = new ArrayList<>();
      List<int[]> shows = new ArrayList<>();
    }

    static final class State {
      final List<Integer> deck;
      final int palmed;
      State(List<Integer> deck, int palmed) { this.deck = List.copyOf(deck); this.palmed = palmed; }
    }

    private StringBuilder tape = new StringBuilder();
    private Sea sea = null;
    private State now = new State(List.of(), -1);
    private List<State> past = new ArrayList<>();
    private List<State> images = new ArrayList<>();
    private int trouble = 0, fault = 0, faultPlace = -1;

    // ---- reading

    private String text;
    private int at;

    /** The token at or behind a byte: its text, or null at the end; leaves 'at' at its first byte. */
    private String peek() {
      while (at < text.length() && text.charAt(at) == ' ') at++;
      if (at == text.length()) return null;
      String rest = text.substring(at);
      String token = rest.replaceFirst("(?s)^([a-z]+|[0-9]+|;|.).*$", "$1");
      if (!token.matches("[a-z]{1,8}|[0-9]{1,2}|;")) throw new Fault(1, at);
      return token;
    }

    private String word(String pattern) {
      String token = peek();
      if (token == null || !token.matches(pattern)) throw new Fault(1, at);
      at += token.length();
      return token;
    }

    private int whole(int low, int high) {
      String token = word("[0-9]+");
      int value = Integer.parseInt(token);
      if (value < low || value > high) throw new Fault(4, at - token.length());
      return value;
    }

    private String name() {
      String token = peek();
      if (token == null || !token.matches("[a-z]+") || RESERVED.contains(token)) throw new Fault(1, at);
      at += token.length();
      return token;
    }

    private Sea read(String bytes) {
      text = bytes;
      at = 0;
      Sea s = null;
      Map<String, Integer> names = new HashMap<>();
      while (true) {
        String first = peek();
        if (first == null || !RESERVED.contains(first)) throw new Fault(1, at);
        int start = at;
        if (s == null && !first.equals("sea")) throw new Fault(6, start);
        if (s != null && first.equals("sea")) throw new Fault(3, start);
        at += first.length();
        if (first.equals("sea")) {
          s = new Sea();
          word("wide"); s.wide = whole(2, 4);
          word("high"); s.high = whole(2, 3);
          word("trumps"); s.trumps = GOODS.indexOf(word("sheep|fish|wool|salt"));
          s.tide = word("calm|tide").equals("tide") ? 1 : 0;
        } else if (first.equals("island")) {
          if (s.islands.size() == 12) throw new Fault(5, start);
          tell(names, s.islands.size());
          int kind = KINDS.indexOf(word("plain|marked|joker"));
          int good = GOODS.indexOf(word("sheep|fish|wool|salt"));
          word("rank"); int rank = whole(1, 9);
          word("people"); int people = whole(0, 99);
          s.islands.add(new int[] {kind, good, rank, people});
        } else if (first.equals("family")) {
          if (s.plan.size() == 10) throw new Fault(5, start);
          tell(names, 1000);
          String move = word("out|in|turn|cut");
          s.plan.add(move.equals("out") ? 0 : move.equals("in") ? 1 : move.equals("turn") ? 2 : 2 + whole(1, 11));
        } else if (first.equals("wish")) {
          if (s.wishes.size() == 6) throw new Fault(5, start);
          int one = use(names);
          int two = use(names);
          boolean again = one == two;
          for (int[] w : s.wishes) again |= new TreeSet<>(List.of(w[0], w[1])).equals(one == two ? Set.of(one) : new TreeSet<>(List.of(one, two)));
          if (again) throw new Fault(3, lastName);
          s.wishes.add(new int[] {one, two});
        } else {
          if (s.shows.size() == 6) throw new Fault(5, start);
          int place = whole(0, s.wide * s.high - 1);
          s.shows.add(new int[] {place, use(names)});
        }
        String end = peek();
        if (end == null) break;
        if (!end.equals(";")) throw new Fault(1, at);
        at++;
      }
      if (s.islands.size() < 2) throw new Fault(6, text.length());
      return s;
    }

    private int lastName;

    private void tell(Map<String, Integer> names, int owner) {
      String n = name();
      if (names.containsKey(n)) throw new Fault(3, at - n.length());
      names.put(n, owner);
    }

    private int use(Map<String, Integer> names) {
      String n = name();
      lastName = at - n.length();
      Integer owner = names.get(n);
      if (owner == null || owner == 1000) throw new Fault(2, lastName);
      return owner;
    }

    // ---- decks

    static List<Integer> moved(List<Integer> d, int move) {
      int n = d.size();
      List<Integer> r = new ArrayList<>();
      if (move == 0 || move == 1) {
        int half = move == 0 ? n - n / 2 : n / 2;
        ArrayDeque<Integer> upper = new ArrayDeque<>(d.subList(0, half));
        ArrayDeque<Integer> lower = new ArrayDeque<>(d.subList(half, n));
        boolean up = move == 0;
        while (r.size() < n) { r.add(up ? upper.poll() : lower.poll()); up = !up; }
      } else if (move == 2) {
        r.addAll(d);
        Collections.reverse(r);
      } else {
        r.addAll(d);
        for (int c = 0; c < (move - 2) % n; c++) r.add(r.remove(0));
      }
      return r;
    }

    private List<Integer> toldDeck() {
      List<Integer> d = new ArrayList<>();
      for (int i = 0; i < sea.islands.size(); i++) d.add(i);
      return d;
    }

    private int moves() { return now.deck.isEmpty() ? 0 : now.deck.size() + 2; }

    private boolean besidePlaces(int p, int q) {
      int room = sea.wide * sea.high;
      if (p < 0 || q < 0 || p >= room || q >= room) return false;
      int[] corners = {0, sea.wide - 1, sea.wide * (sea.high - 1), room - 1};
      if (sea.tide == 1) for (int c : corners) if (c == p || c == q) return false;
      boolean row = p / sea.wide == q / sea.wide && Math.abs(p - q) == 1;
      return row || Math.abs(p - q) == sea.wide;
    }

    private boolean beside(List<Integer> d, int i, int j) { return i != j && besidePlaces(d.indexOf(i), d.indexOf(j)); }
    private boolean laid(List<Integer> d, int i) { return d.contains(i) && d.indexOf(i) < sea.wide * sea.high; }
    private boolean joker(int i) { return sea.islands.get(i)[0] == 2; }
    private int good(int i) { return sea.islands.get(i)[1]; }
    private int rank(int i) { return sea.islands.get(i)[2]; }

    private int trade(List<Integer> d, int i, int j) {
      if (!beside(d, i, j) || joker(i) || joker(j) || good(i) != good(j)) return 0;
      int marked = sea.islands.get(i)[0] + sea.islands.get(j)[0] > 0 ? 1 : 0;
      return (good(i) == sea.trumps ? 2 : 1) + marked;
    }

    private int trades(List<Integer> d, int good) {
      int sum = 0;
      for (int i : d) for (int j : d) if (i < j && (good < 0 || good(i) == good)) sum += trade(d, i, j);
      return sum;
    }

    private int wishesOf(List<Integer> d) {
      int sum = 0;
      for (int[] w : sea.wishes) if (beside(d, w[0], w[1])) sum++;
      return sum;
    }

    private List<Integer> longest(List<Integer> d) {
      List<Integer> bestRun = new ArrayList<>();
      for (int i = 0; i < sea.islands.size(); i++) {
        if (laid(d, i) && !joker(i)) bestRun = longer(bestRun, grow(d, new ArrayList<>(List.of(i))));
      }
      return bestRun;
    }

    private static List<Integer> longer(List<Integer> a, List<Integer> b) { return b.size() > a.size() ? b : a; }

    private List<Integer> grow(List<Integer> d, List<Integer> run) {
      List<Integer> bestRun = run;
      int last = run.get(run.size() - 1);
      for (int j = 0; j < sea.islands.size(); j++) {
        if (beside(d, last, j) && !joker(j) && rank(j) == rank(last) + 1) {
          List<Integer> more = new ArrayList<>(run);
          more.add(j);
          bestRun = longer(bestRun, grow(d, more));
        }
      }
      return bestRun;
    }

    /** Shortest journey by trying out all ways without a repeated island. */
    private int way(List<Integer> d, int i, int j) {
      if (!laid(d, i) || !laid(d, j)) return -2;
      if (i == j) return 0;
      Map<Integer, Integer> far = new HashMap<>(Map.of(i, 0));
      boolean changed = true;
      while (changed) {
        changed = false;
        for (int a : d) {
          if (!far.containsKey(a) || a != i && joker(a)) continue;
          for (int b : d) {
            if (beside(d, a, b) && far.getOrDefault(b, 99) > far.get(a) + 1) { far.put(b, far.get(a) + 1); changed = true; }
          }
        }
      }
      return far.getOrDefault(j, -2);
    }

    private int flood(List<Integer> d, int i, Set<Integer> seen) {
      if (!laid(d, i) || joker(i) || !seen.add(i)) return 0;
      int sum = sea.islands.get(i)[3];
      for (int j : d) if (beside(d, i, j)) sum += flood(d, j, seen);
      return sum;
    }

    private List<Integer> plannedDeck(int k) {
      List<Integer> d = toldDeck();
      for (int m = 0; m < k; m++) d = moved(d, sea.plan.get(m));
      return d;
    }

    private void fitRows(List<Integer> d, int k, List<Integer> row, List<List<Integer>> found) {
      if (k == 0) {
        for (int[] s : sea.shows) if (s[0] >= d.size() || d.get(s[0]) != s[1]) return;
        found.add(List.copyOf(row));
        return;
      }
      for (int m = 0; m < d.size() + 2; m++) {
        row.add(m);
        fitRows(moved(d, m), k - 1, row, found);
        row.remove(row.size() - 1);
      }
    }

    /** How many rows of k moves bring a card to each place. */
    private BigInteger[] spread(int i, int k) {
      int n = now.deck.size();
      BigInteger[] r = new BigInteger[n];
      Arrays.fill(r, BigInteger.ZERO);
      r[now.deck.indexOf(i)] = BigInteger.ONE;
      for (int t = 0; t < k; t++) {
        BigInteger[] s = new BigInteger[n];
        Arrays.fill(s, BigInteger.ZERO);
        for (int m = 0; m < n + 2; m++) {
          List<Integer> places = new ArrayList<>();
          for (int p = 0; p < n; p++) places.add(p);
          places = moved(places, m);
          for (int p = 0; p < n; p++) s[p] = s[p].add(r[places.get(p)]);
        }
        r = s;
      }
      return r;
    }

    private long term(BigInteger part, int k, boolean lower) {
      BigInteger whole = BigInteger.valueOf(moves()).pow(k);
      BigInteger g = part.gcd(whole);
      return (lower ? whole : part).divide(g).longValueExact();
    }

    interface Wanted { boolean is(List<Integer> places); }

    /** The first of the shortest rows of moves, or null. */
    private List<Integer> rowTo(List<Integer> cards, Wanted wanted) {
      int n = now.deck.size();
      List<Integer> start = new ArrayList<>();
      for (int c : cards) start.add(now.deck.indexOf(c));
      Map<List<Integer>, List<Integer>> level = new HashMap<>(Map.of(start, List.of()));
      Set<List<Integer>> seen = new HashSet<>(level.keySet());
      while (!level.isEmpty()) {
        List<Integer> found = null;
        for (Map.Entry<List<Integer>, List<Integer>> e : level.entrySet()) {
          if (wanted.is(e.getKey()) && (found == null || before(e.getValue(), found))) found = e.getValue();
        }
        if (found != null) return found;
        Map<List<Integer>, List<Integer>> next = new HashMap<>();
        for (Map.Entry<List<Integer>, List<Integer>> e : level.entrySet()) {
          for (int m = 0; m < n + 2; m++) {
            List<Integer> marks = new ArrayList<>(Collections.nCopies(n, -1));
            for (int c = 0; c < cards.size(); c++) marks.set(e.getKey().get(c), c);
            marks = moved(marks, m);
            List<Integer> places = new ArrayList<>();
            for (int c = 0; c < cards.size(); c++) places.add(marks.indexOf(c));
            if (seen.contains(places)) continue;
            List<Integer> row = new ArrayList<>(e.getValue());
            row.add(m);
            if (!next.containsKey(places) || before(row, next.get(places))) next.put(places, row);
          }
        }
        seen.addAll(next.keySet());
        level = next;
      }
      return null;
    }

    private static boolean before(List<Integer> a, List<Integer> b) {
      for (int k = 0; k < a.size(); k++) if (!a.get(k).equals(b.get(k))) return a.get(k) < b.get(k);
      return false;
    }

    private int gainOf(int good, int other, int a, int b) {
      List<Integer> d = moved(moved(now.deck, a), b);
      return trades(d, good) - trades(d, other);
    }

    private List<Integer> restsOf(int good, int other) {
      int n = moves();
      int[][] g = new int[n][n];
      for (int a = 0; a < n; a++) for (int b = 0; b < n; b++) g[a][b] = gainOf(good, other, a, b);
      List<Integer> found = new ArrayList<>();
      for (int a = 0; a < n; a++) {
        for (int b = 0; b < n; b++) {
          boolean rest = true;
          for (int c = 0; c < n; c++) if (g[c][b] > g[a][b] || g[a][c] < g[a][b]) rest = false;
          if (rest) found.add(100 * a + b);
        }
      }
      return found;
    }

    private List<List<Integer>> years(int seed, int n) {
      List<List<Integer>> all = new ArrayList<>();
      List<Integer> d = now.deck;
      long s = seed;
      for (int y = 0; y < n; y++) {
        for (int m = 0; m < sea.plan.size(); m++) {
          s = (75 * s + 74) % 65537;
          d = moved(d, (int) (s % moves()));
        }
        all.add(d);
      }
      return all;
    }

    private void act(State next) {
      past.add(now);
      if (past.size() > 16) past.remove(0);
      now = next;
    }

    // ---- calls

    private boolean no(int number) { trouble = number; return true; }
    private boolean isle(int i) { return sea != null && i >= 0 && i < sea.islands.size(); }
    private boolean inDeck(int i) { return isle(i) && now.deck.contains(i); }
    private boolean place(int p) { return p >= 0 && p < now.deck.size(); }

    long call(String name, int[] a) {
      switch (name) {
        case "fault": return fault;
        case "where": return trouble == 4 ? faultPlace : -1;
        case "trouble": return trouble;
        case "size": return size(a[0]);
        case "led": return led(a[0]);
        case "feed": return feed(a);
        default: break;
      }
      trouble = 0;
      long refused = name.equals("gain") ? -1000 : name.equals("lay") || name.equals("undo") || name.equals("back") ? 0 : -1;
      Long got = refusable(name, a);
      return got == null ? refused : got;
    }

    private long size(int what) {
      Sea s = sea == null ? new Sea() : sea;
      int[] sizes = {s.wide, s.high, s.trumps, s.tide, s.islands.size(), s.plan.size(), s.wishes.size(), s.shows.size(), now.deck.size(), moves(), past.size(), images.size(), tape.length()};
      return what >= 0 && what < sizes.length ? sizes[what] : -1;
    }

    private long led(int i) {
      List<Integer> discards = new ArrayList<>();
      if (sea != null) for (int c = 0; c < sea.islands.size(); c++) if (now.deck.contains(c) && !laid(now.deck, c)) discards.add(c);
      return i >= 0 && i < discards.size() ? discards.get(i) : Long.MIN_VALUE;
    }

    private long feed(int[] a) {
      if (tape.length() + 20 > 900) return -1;
      for (int v : a) for (int s = 24; s >= 0; s -= 8) tape.append((char) (v >>> s & 255));
      return tape.length();
    }

    private Long refusable(String name, int[] a) {
      switch (name) {
        case "sea": return readSea(a[0]);
        case "undo": if (past.isEmpty() && no(6)) return null; now = past.remove(past.size() - 1); return 1L;
        case "back": if ((a[0] < 0 || a[0] >= images.size()) && no(1)) return null; now = images.get(a[0]); past.clear(); return 1L;
        default: break;
      }
      if (sea == null && no(1)) return null;
      List<Integer> d = now.deck;
      switch (name) {
        case "island":
          if ((!isle(a[0]) || a[1] < 0 || a[1] > 4) && no(1)) return null;
          return (long) (a[1] < 4 ? sea.islands.get(a[0])[a[1]] : d.contains(a[0]) ? d.indexOf(a[0]) : -2);
        case "card": if (!place(a[0]) && no(1)) return null; return (long) d.get(a[0]);
        case "beside": {
          if (!isle(a[0]) && no(1)) return null;
          long bits = 0;
          for (int j : d) if (beside(d, a[0], j)) bits |= 1L << j;
          return bits;
        }
        case "trade": if ((!isle(a[0]) || !isle(a[1]) || a[0] == a[1]) && no(1)) return null; return (long) trade(d, a[0], a[1]);
        case "trades": return (long) trades(d, -1);
        case "wars": {
          long sum = 0;
          for (int i : d) for (int j : d) if (i < j && beside(d, i, j) && !joker(i) && !joker(j) && Math.abs(rank(i) - rank(j)) >= 5) sum++;
          return sum;
        }
        case "run": return (long) longest(d).size();
        case "runAt": { List<Integer> r = longest(d); if ((a[0] < 0 || a[0] >= r.size()) && no(1)) return null; return (long) r.get(a[0]); }
        case "journey": if ((!isle(a[0]) || !isle(a[1])) && no(1)) return null; return (long) way(d, a[0], a[1]);
        case "wishes": return (long) wishesOf(d);
        case "crowd": { long most = 0; for (int i : d) most = Math.max(most, flood(d, i, new HashSet<>())); return most; }
        case "nearest": {
          if ((!isle(a[0]) || a[1] < 0 || a[1] > 3) && no(1)) return null;
          long least = -2;
          for (int j : d) {
            if (j == a[0] || good(j) != a[1]) continue;
            int w = way(d, a[0], j);
            if (w >= 0 && (least < 0 || w < least)) least = w;
          }
          return least;
        }
        case "people": {
          if ((a[0] < 0 || a[0] > 3) && no(1)) return null;
          long sum = 0;
          for (int i : d) if (laid(d, i) && good(i) == a[0]) sum += sea.islands.get(i)[3];
          return sum;
        }
        default: return reckoned(name, a);
      }
    }

    private Long reckoned(String name, int[] a) {
      List<Integer> d = now.deck;
      switch (name) {
        case "planned":
          if ((a[0] < 0 || a[0] >= sea.islands.size()) && no(1)) return null;
          if ((a[1] < 0 || a[1] > sea.plan.size()) && no(2)) return null;
          return (long) plannedDeck(a[1]).get(a[0]);
        case "plannedTrades": if ((a[0] < 0 || a[0] > sea.plan.size()) && no(2)) return null; return (long) trades(plannedDeck(a[0]), -1);
        case "judge": {
          List<Integer> behind = plannedDeck(sea.plan.size());
          for (int[] s : sea.shows) if (s[0] >= behind.size() || behind.get(s[0]) != s[1]) return (long) sea.shows.indexOf(s);
          return -2L;
        }
        case "fits": case "fitAt": {
          if ((a[0] < 0 || a[0] > 3) && no(2)) return null;
          if (name.equals("fitAt") && (a[1] < 0 || a[1] >= a[0]) && no(1)) return null;
          List<List<Integer>> found = new ArrayList<>();
          fitRows(plannedDeck(sea.plan.size()), a[0], new ArrayList<>(), found);
          return name.equals("fits") ? found.size() : found.isEmpty() ? -2L : (long) found.get(0).get(a[1]);
        }
        case "again": {
          List<Integer> x = toldDeck();
          for (long t = 1; ; t++) { for (int m : sea.plan) x = moved(x, m); if (x.equals(toldDeck())) return t; }
        }
        case "cycle": {
          if ((a[0] < 0 || a[0] >= moves()) && no(1)) return null;
          List<Integer> x = d;
          for (long t = 1; ; t++) { x = moved(x, a[0]); if (x.equals(d)) return t; }
        }
        case "can": {
          if (!inDeck(a[0]) && no(1)) return null;
          if ((a[1] < 0 || a[1] > 12) && no(2)) return null;
          BigInteger[] s = spread(a[0], a[1]);
          long bits = 0;
          for (int p = 0; p < s.length; p++) if (s[p].signum() > 0) bits |= 1L << p;
          return bits;
        }
        case "odds":
          if ((!inDeck(a[0]) || !place(a[2])) && no(1)) return null;
          if ((a[1] < 0 || a[1] > 8) && no(2)) return null;
          return term(spread(a[0], a[1])[a[2]], a[1], a[3] == 1);
        case "inSea": {
          if (!inDeck(a[0]) && no(1)) return null;
          if ((a[1] < 0 || a[1] > 8) && no(2)) return null;
          BigInteger sum = BigInteger.ZERO;
          BigInteger[] s = spread(a[0], a[1]);
          for (int p = 0; p < s.length && p < sea.wide * sea.high; p++) sum = sum.add(s[p]);
          return term(sum, a[1], a[2] == 1);
        }
        case "alike": {
          if (!inDeck(a[0]) && no(1)) return null;
          if ((a[1] < 0 || a[1] > 100) && no(2)) return null;
          for (int k = 0; k <= 8; k++) {
            List<BigInteger> s = Arrays.asList(spread(a[0], k));
            BigInteger apart = Collections.max(s).subtract(Collections.min(s)).multiply(BigInteger.valueOf(100));
            if (apart.compareTo(BigInteger.valueOf(moves()).pow(k).multiply(BigInteger.valueOf(a[1]))) <= 0) return (long) k;
          }
          return -2L;
        }
        case "fewest": case "moveAt": {
          if ((!inDeck(a[0]) || !place(a[1])) && no(1)) return null;
          return found(rowTo(List.of(a[0]), p -> p.get(0) == a[1]), name.equals("fewest"), a[a.length - 1]);
        }
        case "together": case "togetherAt": {
          if ((!inDeck(a[0]) || !inDeck(a[1]) || a[0] == a[1]) && no(1)) return null;
          return found(rowTo(List.of(a[0], a[1]), p -> besidePlaces(p.get(0), p.get(1))), name.equals("together"), a[a.length - 1]);
        }
        case "three": {
          if ((!inDeck(a[0]) || !inDeck(a[1]) || !inDeck(a[2]) || Set.copyOf(List.of(a[0], a[1], a[2])).size() < 3) && no(1)) return null;
          return found(rowTo(List.of(a[0], a[1], a[2]), this::hangs), true, 0);
        }
        default: return chosen(name, a);
      }
    }

    private boolean hangs(List<Integer> p) {
      int pairs = 0;
      for (int i = 0; i < 3; i++) if (besidePlaces(p.get(i), p.get((i + 1) % 3))) pairs++;
      return pairs >= 2;
    }

    private Long found(List<Integer> row, boolean length, int k) {
      if (length) return row == null ? -2L : (long) row.size();
      if ((row == null || k < 0 || k >= row.size()) && no(1)) return null;
      return (long) row.get(k);
    }

    private Long chosen(String name, int[] a) {
      List<Integer> d = now.deck;
      switch (name) {
        case "best": case "bestTrades": {
          int most = -1, move = 0;
          for (int m = 0; m < moves(); m++) if (trades(moved(d, m), -1) > most) { most = trades(moved(d, m), -1); move = m; }
          return (long) (name.equals("best") ? move : most);
        }
        case "bestTwo": {
          int most = -1, pair = 0;
          for (int m = 0; m < moves(); m++) for (int n = 0; n < moves(); n++) {
            int t = trades(moved(moved(d, m), n), -1);
            if (t > most) { most = t; pair = 100 * m + n; }
          }
          return (long) pair;
        }
        case "exchange": {
          int most = -1, pair = 0;
          for (int p = 0; p < d.size(); p++) for (int q = p + 1; q < d.size(); q++) {
            List<Integer> x = new ArrayList<>(d);
            Collections.swap(x, p, q);
            if (trades(x, -1) > most) { most = trades(x, -1); pair = 100 * p + q; }
          }
          return (long) pair;
        }
        case "gain":
          for (int c = 0; c < 4; c++) if ((a[c] < 0 || a[c] >= (c < 2 ? 4 : moves())) && no(1)) return null;
          return (long) gainOf(a[0], a[1], a[2], a[3]);
        case "rests": case "rest": {
          for (int c = 0; c < 2; c++) if ((a[c] < 0 || a[c] >= 4) && no(1)) return null;
          List<Integer> r = restsOf(a[0], a[1]);
          return name.equals("rests") ? r.size() : r.isEmpty() ? -2L : (long) r.get(0);
        }
        case "decade": case "decadeWishes": case "decadeOf": {
          int from = name.equals("decadeOf") ? 1 : 0;
          if (from == 1 && !isle(a[0]) && no(1)) return null;
          if ((a[from] < 0 || a[from] > 65536 || a[from + 1] < 0 || a[from + 1] > 50) && no(2)) return null;
          long sum = 0;
          for (List<Integer> y : years(a[from], a[from + 1])) sum += from == 1 ? (laid(y, a[0]) ? 1 : 0) : name.equals("decade") ? trades(y, -1) : wishesOf(y);
          return sum;
        }
        case "deal": if ((a[0] < 0 || a[0] >= moves()) && no(1)) return null; act(new State(moved(d, a[0]), now.palmed)); return (long) trades(now.deck, -1);
        case "palm": {
          if (!place(a[0]) && no(1)) return null;
          if ((now.palmed >= 0 || d.size() == 2) && no(5)) return null;
          List<Integer> x = new ArrayList<>(d);
          int c = x.remove(a[0]);
          act(new State(x, c));
          return (long) c;
        }
        case "lay": {
          if (now.palmed < 0 && no(6)) return null;
          List<Integer> x = new ArrayList<>(d);
          x.add(now.palmed);
          act(new State(x, -1));
          return 1L;
        }
        case "image": if (images.size() == 3 && no(3)) return null; images.add(now); return images.size() - 1L;
        default: throw new IllegalStateException(name);
      }
    }

    private Long readSea(int n) {
      if ((n < 0 || n > tape.length()) && no(2)) return null;
      String bytes = tape.substring(0, n);
      tape = new StringBuilder();
      try {
        sea = read(bytes);
        fault = 0;
        now = new State(toldDeck(), -1);
        past.clear();
        images.clear();
        return (long) sea.islands.size();
      } catch (Fault f) {
        fault = f.number;
        faultPlace = f.place;
        no(4);
        return null;
      }
    }
  }

  // ---- the object under test, called by names

  static long real(DealtSea x, String name, int[] a) {
    switch (name) {
      case "feed": return x.feed(a[0], a[1], a[2], a[3], a[4]);
      case "sea": return x.sea(a[0]);
      case "fault": return x.fault();
      case "where": return x.where();
      case "island": return x.island(a[0], a[1]);
      case "card": return x.card(a[0]);
      case "beside": return x.beside(a[0]);
      case "trade": return x.trade(a[0], a[1]);
      case "trades": return x.trades();
      case "wars": return x.wars();
      case "run": return x.run();
      case "runAt": return x.runAt(a[0]);
      case "journey": return x.journey(a[0], a[1]);
      case "wishes": return x.wishes();
      case "crowd": return x.crowd();
      case "nearest": return x.nearest(a[0], a[1]);
      case "people": return x.people(a[0]);
      case "planned": return x.planned(a[0], a[1]);
      case "plannedTrades": return x.plannedTrades(a[0]);
      case "judge": return x.judge();
      case "fits": return x.fits(a[0]);
      case "fitAt": return x.fitAt(a[0], a[1]);
      case "again": return x.again();
      case "cycle": return x.cycle(a[0]);
      case "can": return x.can(a[0], a[1]);
      case "odds": return x.odds(a[0], a[1], a[2], a[3] == 1);
      case "inSea": return x.inSea(a[0], a[1], a[2] == 1);
      case "alike": return x.alike(a[0], a[1]);
      case "fewest": return x.fewest(a[0], a[1]);
      case "moveAt": return x.moveAt(a[0], a[1], a[2]);
      case "together": return x.together(a[0], a[1]);
      case "togetherAt": return x.togetherAt(a[0], a[1], a[2]);
      case "three": return x.three(a[0], a[1], a[2]);
      case "best": return x.best();
      case "bestTrades": return x.bestTrades();
      case "bestTwo": return x.bestTwo();
      case "exchange": return x.exchange();
      case "gain": return x.gain(a[0], a[1], a[2], a[3]);
      case "rests": return x.rests(a[0], a[1]);
      case "rest": return x.rest(a[0], a[1]);
      case "decade": return x.decade(a[0], a[1]);
      case "decadeWishes": return x.decadeWishes(a[0], a[1]);
      case "decadeOf": return x.decadeOf(a[0], a[1], a[2]);
      case "deal": return x.deal(a[0]);
      case "palm": return x.palm(a[0]);
      case "lay": return x.lay() ? 1 : 0;
      case "undo": return x.undo() ? 1 : 0;
      case "image": return x.image();
      case "back": return x.back(a[0]) ? 1 : 0;
      case "led": try { return x.led(a[0]); } catch (NoSuchElementException e) { return Long.MIN_VALUE; }
      case "size": return x.size(a[0]);
      case "trouble": return x.trouble();
      default: throw new IllegalStateException(name);
    }
  }

  // ---- random texts and calls

  private static final Random dice = new Random(20261118);

  private static int roll(int low, int high) { return low + dice.nextInt(high - low + 1); }
  private static <T> T any(List<T> list) { return list.get(dice.nextInt(list.size())); }

  private static final List<String> WORDS = List.of("sea", "island", "family", "wish", "shows", "wide", "high", "trumps", "rank", "people", "plain", "marked", "joker", "sheep", "fish", "wool", "salt", "calm", "tide", "out", "in", "turn", "cut", "a", "b", "ab", "zz", "eightlet", "ninelette", "0", "1", "3", "9", "12", "99", "100", ";", ";;", "A", "\t", "\u00ff", "-1", "  ");

  static String randomText() {
    int islands = roll(0, 9) == 0 ? roll(0, 14) : roll(2, 12);
    List<String> names = new ArrayList<>();
    List<String> lines = new ArrayList<>();
    lines.add("sea wide " + roll(2, 4) + " high " + roll(2, 3) + " trumps " + any(Model.GOODS) + (dice.nextBoolean() ? " calm" : " tide"));
    int goods = roll(1, 4);
    int ranks = roll(2, 9);
    for (int i = 0; i < islands; i++) {
      names.add("" + (char) ('a' + i) + (roll(0, 3) == 0 ? "x" : ""));
      String kind = any(List.of("plain", "plain", "plain", "marked", "marked", "joker"));
      lines.add("island " + names.get(i) + " " + kind + " " + Model.GOODS.get(dice.nextInt(goods)) + " rank " + roll(1, ranks) + " people " + roll(0, 99));
    }
    int families = roll(0, 3) == 0 ? roll(0, 11) : roll(0, 4);
    for (int f = 0; f < families; f++) {
      lines.add("family f" + (char) ('a' + f) + " " + any(List.of("out", "in", "turn", "cut " + roll(1, 11), "cut " + roll(1, 11))));
    }
    if (islands >= 2) {
      int wishes = roll(0, 4) == 0 ? roll(0, 7) : roll(0, 3);
      for (int w = 0; w < wishes; w++) lines.add("wish " + any(names) + " " + any(names));
      int shows = roll(0, 6) == 0 ? roll(0, 7) : roll(0, 2);
      for (int s = 0; s < shows; s++) lines.add("shows " + roll(0, 5) + " " + any(names));
    }
    if (roll(0, 5) == 0) Collections.shuffle(lines.subList(1, lines.size()), dice);
    String text = String.join(any(List.of(";", ";", " ; ", ";  ")), lines);
    return roll(0, 2) == 0 ? spoilt(text) : text;
  }

  private static String spoilt(String text) {
    StringBuilder t = new StringBuilder(text);
    int at = dice.nextInt(t.length() + 1);
    switch (roll(0, 4)) {
      case 0: return text.substring(0, at);
      case 1: t.insert(at, any(WORDS)); break;
      case 2: t.insert(at, " " + any(WORDS) + " "); break;
      case 3: t.replace(at, Math.min(t.length(), at + roll(1, 4)), any(WORDS)); break;
      default: {
        String[] tokens = text.split(" ");
        tokens[dice.nextInt(tokens.length)] = any(WORDS);
        return String.join(" ", tokens);
      }
    }
    return t.toString();
  }

  private static int arg(int high) {
    switch (roll(0, 24)) {
      case 0: return -1;
      case 1: return high + 1;
      case 2: return any(List.of(Integer.MIN_VALUE, Integer.MAX_VALUE, -2, 65537, 1000000));
      default: return roll(0, high);
    }
  }

  private static final List<String> CALLS = List.of("island", "card", "beside", "trade", "trades", "wars", "run", "runAt", "journey", "wishes", "crowd", "nearest", "people", "planned", "plannedTrades", "judge", "fits", "fitAt", "again", "cycle", "can", "odds", "inSea", "alike", "fewest", "moveAt", "together", "togetherAt", "three", "best", "bestTrades", "bestTwo", "exchange", "gain", "rests", "rest", "decade", "decadeWishes", "decadeOf", "deal", "deal", "deal", "palm", "palm", "lay", "lay", "undo", "undo", "image", "back", "led", "size", "trouble", "where", "fault");

  private static int[] argsOf(String name, int n) {
    int m = n + 1;
    switch (name) {
      case "island": return new int[] {arg(n - 1), arg(4)};
      case "card": case "beside": case "palm": return new int[] {arg(n - 1)};
      case "trade": case "journey": case "together": case "fewest": return new int[] {arg(n - 1), arg(n - 1)};
      case "runAt": return new int[] {arg(2)};
      case "nearest": return new int[] {arg(n - 1), arg(3)};
      case "people": case "plannedTrades": case "fits": return new int[] {arg(3)};
      case "planned": return new int[] {arg(n - 1), arg(4)};
      case "fitAt": return new int[] {arg(3), arg(1)};
      case "cycle": case "deal": return new int[] {arg(m)};
      case "can": return new int[] {arg(n - 1), arg(12)};
      case "odds": return new int[] {arg(n - 1), arg(8), arg(n - 1), roll(0, 1)};
      case "inSea": return new int[] {arg(n - 1), arg(8), roll(0, 1)};
      case "alike": return new int[] {arg(n - 1), roll(0, 2) == 0 ? arg(100) : arg(9)};
      case "moveAt": case "togetherAt": return new int[] {arg(n - 1), arg(n - 1), arg(1)};
      case "three": return new int[] {arg(n - 1), arg(n - 1), arg(n - 1)};
      case "gain": return new int[] {arg(3), arg(3), arg(m), arg(m)};
      case "rests": case "rest": return new int[] {arg(3), arg(3)};
      case "decade": case "decadeWishes": return new int[] {arg(65536), arg(50)};
      case "decadeOf": return new int[] {arg(n - 1), arg(65536), arg(50)};
      case "back": return new int[] {arg(2)};
      case "led": return new int[] {arg(4)};
      case "size": return new int[] {arg(12)};
      default: return new int[0];
    }
  }

  /** Calls on the object at hand: behind 512 its answers are free. */
  private static int used = 0;

  private static void both(DealtSea x, Model m, String name, int[] a, List<String> run) {
    used += 4;
    if (used > 512) return;
    long got = real(x, name, a);
    long due = m.call(name, a);
    asked.merge(name, 1, Integer::sum);
    run.add(name + Arrays.toString(a) + " " + got);
    if (got != due && wrong++ < 10) {
      System.out.println("due is " + due + " behind:");
      for (String line : run) if (!line.startsWith("feed")) System.out.println("  " + line);
    }
    if (x.trouble() != m.trouble && wrong++ < 10) System.out.println("trouble " + x.trouble() + ", due is " + m.trouble + " behind " + run);
    if (x.where() != m.call("where", a) && wrong++ < 10) System.out.println("where " + x.where() + " behind " + run);
    if (x.fault() != m.fault && wrong++ < 10) System.out.println("fault " + x.fault() + ", due is " + m.fault + " behind " + run);
  }

  private static void tell(DealtSea x, Model m, String text, List<String> run) {
    String padded = text + " ".repeat((20 - text.length() % 20) % 20);
    run.add(text);
    for (int p = 0; p < padded.length(); p += 20) {
      int[] a = new int[5];
      for (int c = 0; c < 20; c++) a[c / 4] = a[c / 4] << 8 | padded.charAt(p + c) & 255;
      both(x, m, "feed", a, run);
    }
    both(x, m, "sea", new int[] {roll(0, 40) == 0 ? arg(900) : text.length()}, run);
  }

  public static void main(String[] args) {
    int runs = args.length > 0 ? Integer.parseInt(args[0]) : 3000;
    for (int r = 0; r < runs; r++) {
      DealtSea x = new DealtSea();
      Model m = new Model();
      used = 0;
      List<String> run = new ArrayList<>();
      int texts = roll(1, 4);
      for (int t = 0; t < texts; t++) {
        if (roll(0, 9) > 0) tell(x, m, randomText(), run);
        int n = m.sea == null ? 3 : m.sea.islands.size();
        int calls = roll(0, 40);
        for (int c = 0; c < calls; c++) {
          String name = any(CALLS);
          both(x, m, name, argsOf(name, n), run);
        }
      }
    }
    for (int r = 0; r < 20 * runs; r++) {
      DealtSea x = new DealtSea();
      Model m = new Model();
      used = 0;
      tell(x, m, spoilt(randomText()), new ArrayList<>());
    }
    for (String name : CALLS) if (!asked.containsKey(name)) { wrong++; System.out.println(name + " was never asked"); }
    System.out.println(wrong == 0 ? "all answers are as due" : wrong + " answers are not as due");
    if (wrong != 0) System.exit(1);
  }
}
