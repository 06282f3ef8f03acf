import java.lang.reflect.InvocationTargetException;
import java.lang.reflect.Method;
import java.lang.reflect.Modifier;
import java.math.BigInteger;
import java.util.ArrayList;
import java.util.List;
import java.util.NoSuchElementException;

/** The edges that the document names for the calls on a sea: a method for each, all of which main runs. */
public final class CallEdgesTest {
  private static int wrong = 0;
  private static String edge = "";
  private static final int[] FAR = {Integer.MIN_VALUE, -2, -1, 1 << 30, Integer.MAX_VALUE};

  private interface Call { long answer(); }

  private static void due(String what, long got, long want) {
    if (got != want) { wrong++; System.out.println(edge + ": " + what + " answered " + got + ", due is " + want); }
  }

  /** A call that is refused: its answer and its trouble, with another trouble ahead, so that this one must be its own. */
  private static void no(DealtSea x, String what, long refusal, int trouble, Call call) {
    if (trouble == 2) x.card(-1); else x.sea(-1);
    due(what, call.answer(), refusal);
    due(what + ", its trouble", x.trouble(), trouble);
    due(what + ", where()", x.where(), -1);
  }

  private static void no(DealtSea x, String what, int trouble, Call call) { no(x, what, -1, trouble, call); }

  /** An act that is refused: it must change nothing. */
  private static void noAct(DealtSea x, String what, long refusal, int trouble, Call call) {
    String before = state(x);
    no(x, what, refusal, trouble, call);
    if (!state(x).equals(before)) { wrong++; System.out.println(edge + ": " + what + " was refused, but changed " + before + " to " + state(x)); }
  }

  /** A call that isn't refused. */
  private static void yes(DealtSea x, String what, long want, Call call) {
    x.sea(-1);
    due(what, call.answer(), want);
    due(what + ", its trouble", x.trouble(), 0);
  }

  private static String state(DealtSea x) { return deck(x) + ", " + x.size(10) + " acts, " + x.size(11) + " images"; }

  private static String deck(DealtSea x) {
    StringBuilder s = new StringBuilder();
    for (int p = 0; p < x.size(8); p++) s.append(p == 0 ? "" : " ").append(x.card(p));
    return s.toString();
  }

  private static void deckIs(String what, DealtSea x, String want) {
    if (!deck(x).equals(want)) { wrong++; System.out.println(edge + ": " + what + " brought " + deck(x) + ", due is " + want); }
  }

  private static DealtSea of(String text) {
    DealtSea x = new DealtSea();
    String t = text + " ".repeat((20 - text.length() % 20) % 20);
    for (int p = 0; p < t.length(); p += 20) {
      int[] a = new int[5];
      for (int c = 0; c < 20; c++) a[c / 4] = a[c / 4] << 8 | t.charAt(p + c) & 255;
      x.feed(a[0], a[1], a[2], a[3], a[4]);
    }
    due("sea of " + text, x.sea(text.length()) >= 2 ? 1 : 0, 1);
    return x;
  }

  /** Islands a, b, .. by 'kind good rank people', a letter for kind (p m j) and good (h f w s): "pf1 20". */
  private static String islands(String... tokens) {
    StringBuilder t = new StringBuilder();
    for (int k = 0; k < tokens.length; k++) {
      String[] parts = tokens[k].split(" ");
      String kind = List.of("plain", "marked", "joker").get("pmj".indexOf(parts[0].charAt(0)));
      String good = List.of("sheep", "fish", "wool", "salt").get("hfws".indexOf(parts[0].charAt(1)));
      t.append(";island ").append((char) ('a' + k)).append(' ').append(kind).append(' ').append(good);
      t.append(" rank ").append(parts[0].charAt(2)).append(" people ").append(parts.length > 1 ? parts[1] : "1");
    }
    return t.toString();
  }

  private static String head(int wide, int high, String water) { return "sea wide " + wide + " high " + high + " trumps fish " + water; }

  private static String alike(int n, String token) {
    String[] tokens = new String[n];
    for (int k = 0; k < n; k++) tokens[k] = token;
    return islands(tokens);
  }

  /** So many islands of salt in a calm sea. */
  private static DealtSea salt(int n, int wide, int high) { return of(head(wide, high, "calm") + alike(n, "ps1")); }

  private static String row(int n, java.util.function.IntUnaryOperator f) {
    StringBuilder s = new StringBuilder();
    for (int p = 0; p < n; p++) s.append(p == 0 ? "" : " ").append(f.applyAsInt(p));
    return s.toString();
  }

  private static int ledOr(DealtSea x, int i) {
    try { return x.led(i); } catch (NoSuchElementException e) { return -7; }
  }

  // ---- moves

  private static void outOfEvenAndOddDecks() {
    String[] want = {"0 1", "0 2 1", "0 2 1 3", "0 3 1 4 2", "0 3 1 4 2 5", "0 4 1 5 2 6 3", "0 4 1 5 2 6 3 7", "0 5 1 6 2 7 3 8 4", "0 5 1 6 2 7 3 8 4 9", "0 6 1 7 2 8 3 9 4 10 5", "0 6 1 7 2 8 3 9 4 10 5 11"};
    for (int n = 2; n <= 12; n++) { DealtSea x = salt(n, 2, 2); x.deal(0); deckIs("out of " + n, x, want[n - 2]); }
  }

  private static void inOfEvenAndOddDecks() {
    String[] want = {"1 0", "1 0 2", "2 0 3 1", "2 0 3 1 4", "3 0 4 1 5 2", "3 0 4 1 5 2 6", "4 0 5 1 6 2 7 3", "4 0 5 1 6 2 7 3 8", "5 0 6 1 7 2 8 3 9 4", "5 0 6 1 7 2 8 3 9 4 10", "6 0 7 1 8 2 9 3 10 4 11 5"};
    for (int n = 2; n <= 12; n++) { DealtSea x = salt(n, 2, 2); x.deal(1); deckIs("in of " + n, x, want[n - 2]); }
  }

  private static void turnOfAllDecks() {
    for (int n = 2; n <= 12; n++) { int last = n - 1; DealtSea x = salt(n, 2, 2); x.deal(2); deckIs("turn of " + n, x, row(n, p -> last - p)); }
  }

  private static void cutsUpToOneFewerThanThereAre() {
    for (int n = 2; n <= 12; n++) {
      for (int c = 1; c < n; c++) {
        int cards = n, first = c;
        DealtSea x = salt(n, 2, 2);
        x.deal(2 + c);
        deckIs("cut " + c + " of " + n, x, row(n, p -> p + first < cards ? p + first : p + first - cards));
      }
    }
  }

  private static void aToldCutIsWhatIsLeftByTheCards() {
    for (int n = 2; n <= 12; n++) {
      for (int c = 1; c <= 11; c++) {
        DealtSea x = of(head(2, 2, "calm") + alike(n, "ps1") + ";family x cut " + c);
        for (int p = 0; p < n; p++) due("planned(" + p + ", 1) of cut " + c + " of " + n, x.planned(p, 1), (p + c) % n);
      }
    }
  }

  private static void movesThereAre() {
    due("size(9) without a sea", new DealtSea().size(9), 0);
    for (int n = 2; n <= 12; n++) {
      DealtSea x = salt(n, 2, 2);
      due("size(9) of " + n, x.size(9), n + 2);
      int beyond = n + 2;
      noAct(x, "deal(" + beyond + ") of " + n, -1, 1, () -> x.deal(beyond));
      no(x, "cycle(" + beyond + ") of " + n, 1, () -> x.cycle(beyond));
      no(x, "gain(0, 0, " + beyond + ", 0) of " + n, -1000, 1, () -> x.gain(0, 0, beyond, 0));
      no(x, "gain(0, 0, 0, " + beyond + ") of " + n, -1000, 1, () -> x.gain(0, 0, 0, beyond));
      if (n > 2) {
        x.palm(0);
        due("size(9) behind a palm", x.size(9), n + 1);
        noAct(x, "deal(" + (n + 1) + ") behind a palm", -1, 1, () -> x.deal(beyond - 1));
      }
    }
  }

  // ---- who is beside whom

  private static void besideInAFullSea() {
    int[] three = {1 << 1 | 1 << 3, 1 << 0 | 1 << 2 | 1 << 4, 1 << 1 | 1 << 5, 1 << 0 | 1 << 4, 1 << 1 | 1 << 3 | 1 << 5, 1 << 2 | 1 << 4};
    DealtSea x = salt(6, 3, 2);
    for (int i = 0; i < 6; i++) due("beside(" + i + ") in 3 by 2", x.beside(i), three[i]);
    DealtSea y = salt(12, 4, 3);
    int[] four = {18, 37, 74, 132, 289, 594, 1188, 2120, 528, 1312, 2624, 1152};
    for (int i = 0; i < 12; i++) due("beside(" + i + ") in 4 by 3", y.beside(i), four[i]);
    // a row's last one and the next row's first one are not beside each other
    due("trade(2, 3)", x.trade(2, 3), 0);
    due("trade(3, 4)", y.trade(3, 4), 0);
    due("trade(7, 8)", y.trade(7, 8), 0);
    due("journey(2, 3)", x.journey(2, 3), 3);
  }

  private static void besideInASeaThatIsNotFull() {
    DealtSea x = salt(3, 2, 2);
    int[] want = {6, 1, 1};
    for (int i = 0; i < 3; i++) due("beside(" + i + ")", x.beside(i), want[i]);
    DealtSea y = salt(6, 4, 3);
    int[] six = {18, 37, 10, 4, 33, 18};
    for (int i = 0; i < 6; i++) due("beside(" + i + ") of six in 4 by 3", y.beside(i), six[i]);
    DealtSea two = salt(2, 4, 3);
    due("beside(0) of two", two.beside(0), 2);
    due("led(0), no discards", ledOr(two, 0), -7);
  }

  private static void moreCardsThanRoom() {
    DealtSea x = salt(12, 2, 2);
    int[] want = {6, 9, 9, 6, 0, 0, 0, 0, 0, 0, 0, 0};
    for (int i = 0; i < 12; i++) { int island = i; yes(x, "beside(" + i + ")", want[i], () -> x.beside(island)); }
    for (int i = 0; i < 8; i++) due("led(" + i + ")", ledOr(x, i), i + 4);
    due("led(8)", ledOr(x, 8), -7);
    due("trades()", x.trades(), 4);
    due("people(3)", x.people(3), 4);
    yes(x, "trade(0, 4), a discard", 0, () -> x.trade(0, 4));
    yes(x, "trade(4, 5), discards", 0, () -> x.trade(4, 5));
  }

  private static void cornersAtATideAreBesideNothing() {
    int[][] sizes = {{2, 2}, {3, 2}, {4, 2}, {2, 3}, {3, 3}, {4, 3}};
    int[][] want = {{0, 0, 0, 0}, {0, 16, 0, 0, 2, 0}, {0, 36, 66, 0, 0, 66, 36, 0}, {0, 0, 8, 4, 0, 0}, {0, 16, 0, 16, 170, 16, 0, 16, 0}, {0, 36, 66, 0, 32, 594, 1188, 64, 0, 1056, 576, 0}};
    for (int s = 0; s < sizes.length; s++) {
      DealtSea x = of(head(sizes[s][0], sizes[s][1], "tide") + alike(sizes[s][0] * sizes[s][1], "ps1"));
      for (int i = 0; i < want[s].length; i++) due("beside(" + i + ") in " + sizes[s][0] + " by " + sizes[s][1], x.beside(i), want[s][i]);
    }
    // the corners are the sea's, whatever cards lie in it
    DealtSea few = of(head(4, 3, "tide") + alike(6, "ps1"));
    int[] six = {0, 36, 2, 0, 32, 18};
    for (int i = 0; i < 6; i++) due("beside(" + i + ") of six at a tide", few.beside(i), six[i]);
  }

  private static void besideRefused() {
    DealtSea x = salt(3, 2, 2);
    for (int i : FAR) no(x, "beside(" + i + ")", 1, () -> x.beside(i));
    no(x, "beside(3)", 1, () -> x.beside(3));
    x.palm(0);
    yes(x, "beside(0) palmed", 0, () -> x.beside(0));
    yes(x, "beside(1), the palmed one has left", 4, () -> x.beside(1));
  }

  private static void islandRefused() {
    DealtSea x = salt(3, 2, 2);
    for (int far : FAR) {
      no(x, "island(" + far + ", 0)", 1, () -> x.island(far, 0));
      no(x, "island(0, " + far + ")", 1, () -> x.island(0, far));
    }
    no(x, "island(3, 4)", 1, () -> x.island(3, 4));
    no(x, "island(2, 5)", 1, () -> x.island(2, 5));
    yes(x, "island(2, 4)", 2, () -> x.island(2, 4));
    x.palm(1);
    yes(x, "island(1, 4), palmed", -2, () -> x.island(1, 4));
    yes(x, "island(1, 3), palmed", 1, () -> x.island(1, 3));
    yes(x, "island(2, 4), behind the palmed one", 1, () -> x.island(2, 4));
    no(x, "island(3, 4)", 1, () -> x.island(3, 4));
  }

  private static void cardRefused() {
    DealtSea x = salt(3, 2, 2);
    for (int far : FAR) no(x, "card(" + far + ")", 1, () -> x.card(far));
    yes(x, "card(2)", 2, () -> x.card(2));
    no(x, "card(3)", 1, () -> x.card(3));
    x.palm(0);
    no(x, "card(2) of two", 1, () -> x.card(2));
    x.lay();
    yes(x, "card(2), laid back", 0, () -> x.card(2));
  }

  // ---- trades and wars

  private static void tradeOfKindsAndGoods() {
    String[] pairs = {"ps1 ps1", "pf1 pf1", "ms1 ps1", "ps1 ms1", "ms1 ms1", "mf1 pf1", "pf1 mf1", "mf1 mf1", "js1 ps1", "ps1 js1", "jf1 mf1", "jf1 jf1", "ps1 pf1", "mf1 ms1", "pw1 pw1", "ph1 mh1"};
    int[] want = {1, 2, 2, 2, 2, 3, 3, 3, 0, 0, 0, 0, 0, 0, 1, 2};
    for (int k = 0; k < pairs.length; k++) {
      int due = want[k];
      DealtSea x = of(head(2, 2, "calm") + islands(pairs[k].split(" ")));
      yes(x, "trade(0, 1) of " + pairs[k], due, () -> x.trade(0, 1));
      yes(x, "trade(1, 0) of " + pairs[k], due, () -> x.trade(1, 0));
      yes(x, "trades() of " + pairs[k], due, x::trades);
    }
  }

  private static void tradeOfTwoThatAreNotBeside() {
    DealtSea x = salt(6, 2, 2);
    yes(x, "trade(0, 3), across", 0, () -> x.trade(0, 3));
    yes(x, "trade(3, 5), a discard", 0, () -> x.trade(3, 5));
    yes(x, "trade(0, 1)", 1, () -> x.trade(0, 1));
    x.palm(0);
    yes(x, "trade(0, 1), palmed", 0, () -> x.trade(0, 1));
    yes(x, "trade(1, 0), palmed", 0, () -> x.trade(1, 0));
  }

  private static void tradeRefused() {
    DealtSea x = salt(3, 2, 2);
    for (int far : FAR) {
      no(x, "trade(" + far + ", 0)", 1, () -> x.trade(far, 0));
      no(x, "trade(0, " + far + ")", 1, () -> x.trade(0, far));
      no(x, "trade(" + far + ", " + far + ")", 1, () -> x.trade(far, far));
    }
    for (int i = 0; i < 3; i++) { int same = i; no(x, "trade(" + i + ", " + i + ")", 1, () -> x.trade(same, same)); }
    no(x, "trade(2, 3)", 1, () -> x.trade(2, 3));
    no(x, "trade(3, 2)", 1, () -> x.trade(3, 2));
  }

  private static void tradesFewestAndMost() {
    due("trades() of jokers", of(head(4, 3, "calm") + alike(12, "jf1")).trades(), 0);
    due("trades(), 17 pairs", salt(12, 4, 3).trades(), 17);
    due("trades(), 17 pairs of 3", of(head(4, 3, "calm") + alike(12, "mf1")).trades(), 51);
    due("trades(), 9 pairs at a tide", of(head(4, 3, "tide") + alike(12, "mf1")).trades(), 27);
    due("trades(), all are corners", of(head(2, 2, "tide") + alike(12, "mf1")).trades(), 0);
  }

  private static void warsOfRanksFiveApart() {
    for (int a = 1; a <= 9; a++) {
      for (int b = 1; b <= 9; b++) {
        int due = a - b >= 5 || b - a >= 5 ? 1 : 0;
        DealtSea x = of(head(2, 2, "calm") + islands("ps" + a, "pf" + b));
        yes(x, "wars() of " + a + " and " + b, due, x::wars);
        due("wars() with a joker", of(head(2, 2, "calm") + islands("js" + a, "pf" + b)).wars(), 0);
        due("wars() with a joker", of(head(2, 2, "calm") + islands("ps" + a, "jf" + b)).wars(), 0);
        due("wars() at a tide", of(head(2, 2, "tide") + islands("ps" + a, "pf" + b)).wars(), 0);
      }
    }
    due("wars(), 17 pairs", of(head(4, 3, "calm") + islands("ps1", "ps9", "ps1", "ps9", "ps9", "ps1", "ps9", "ps1", "ps1", "ps9", "ps1", "ps9")).wars(), 17);
    due("wars() of a discard", of(head(2, 2, "calm") + islands("ps1", "ps1", "ps1", "ps1", "ps9", "ps9")).wars(), 0);
    // 1 and 9 at a row's end and the next row's start
    due("wars() around the edge", of(head(3, 2, "calm") + islands("ps5", "ps5", "ps1", "ps6", "ps5", "ps5")).wars(), 0);
  }

  // ---- runs

  private static void runWithoutIslandsButJokers() {
    DealtSea x = of(head(2, 2, "calm") + islands("jf1", "jf2", "jf3", "jf4", "pf5", "pf6"));
    yes(x, "run(), jokers in the sea", 0, x::run);
    no(x, "runAt(0)", 1, () -> x.runAt(0));
    x.deal(2);
    due("run() of f e d c", x.run(), 2);
    due("runAt(0), the lower rank", x.runAt(0), 4);
  }

  private static void runOfOneAndOfAll() {
    DealtSea one = of(head(2, 2, "calm") + islands("pf1", "jf2", "pf3", "pf1"));
    yes(one, "run() of one", 1, one::run);
    yes(one, "runAt(0)", 0, () -> one.runAt(0));
    no(one, "runAt(1)", 1, () -> one.runAt(1));
    // 1 2 3 / 6 5 4 / 7 8 9
    DealtSea nine = of(head(3, 3, "calm") + islands("pf1", "pf2", "pf3", "pf6", "pf5", "pf4", "pf7", "pf8", "pf9"));
    yes(nine, "run() of nine", 9, nine::run);
    int[] want = {0, 1, 2, 5, 4, 3, 6, 7, 8};
    for (int k = 0; k < 9; k++) { int at = k; yes(nine, "runAt(" + k + ")", want[k], () -> nine.runAt(at)); }
    no(nine, "runAt(9)", 1, () -> nine.runAt(9));
    for (int far : FAR) no(nine, "runAt(" + far + ")", 1, () -> nine.runAt(far));
  }

  private static void runRisesByOne() {
    due("run() of 1 1", of(head(2, 2, "calm") + islands("pf1", "pf1")).run(), 1);
    due("run() of 1 3", of(head(2, 2, "calm") + islands("pf1", "pf3")).run(), 1);
    due("run() of 9 1", of(head(2, 2, "calm") + islands("pf9", "pf1")).run(), 1);
    due("run() of 8 9", of(head(2, 2, "calm") + islands("pf8", "pf9")).run(), 2);
    DealtSea x = of(head(2, 2, "calm") + islands("pf2", "pf1"));
    due("run() of 2 1, the other way", x.run(), 2);
    due("runAt(0)", x.runAt(0), 1);
    due("runAt(1)", x.runAt(1), 0);
    due("run() over a joker", of(head(3, 2, "calm") + islands("pf1", "jf2", "pf3")).run(), 1);
    due("run() at a tide", of(head(2, 2, "tide") + islands("pf1", "pf2")).run(), 1);
    // 3 and 4 are a row's end and the next row's start
    due("run() around the edge", of(head(3, 2, "calm") + islands("pf9", "pf9", "pf3", "pf4", "pf9", "pf9")).run(), 1);
    due("run() into the discards", of(head(2, 2, "calm") + islands("pf9", "pf9", "pf9", "pf1", "pf2", "pf3")).run(), 1);
  }

  private static void runAtOfLikeLongOnes() {
    // two runs of two, the later told one is higher up: c d behind a b
    DealtSea x = of(head(2, 2, "calm") + islands("pf1", "pf2", "pf4", "pf5"));
    due("runAt(0)", x.runAt(0), 0);
    x.deal(2);
    due("runAt(0), turned", x.runAt(0), 0);
    due("runAt(1), turned", x.runAt(1), 1);
    // 2 1 / 1 2 with b and c as starts: b may go to a or d
    DealtSea y = of(head(2, 2, "calm") + islands("pf2", "pf1", "pf1", "pf2"));
    due("runAt(0)", y.runAt(0), 1);
    due("runAt(1)", y.runAt(1), 0);
  }

  private static void runAtOfIslandsInTheSea() {
    // a b / c d and e f aside; 1 2 hang together, then they lie aside, where no run is
    DealtSea x = of(head(2, 2, "calm") + islands("pf1", "pf2", "pf5", "pf8", "pf3", "pf7"));
    due("run()", x.run(), 2);
    due("runAt(0)", x.runAt(0), 0);
    x.deal(2);
    // f e / d c: 7 3 / 8 5
    due("run() turned", x.run(), 2);
    due("runAt(0) turned", x.runAt(0), 5);
    due("runAt(1) turned", x.runAt(1), 3);
    DealtSea y = of(head(2, 2, "calm") + islands("pf1", "pf2", "pf5", "pf8", "pf3", "pf1"));
    y.runAt(0);
    y.deal(2);
    // f e / d c: 1 3 / 8 5: runs of one; a and b are aside
    due("run() turned", y.run(), 1);
    due("runAt(0), the first in the sea", y.runAt(0), 2);
    y.undo();
    y.palm(0);
    // b c / d e: 2 5 / 8 3, a is palmed
    due("run() behind a palm", y.run(), 1);
    due("runAt(0), not the palmed one", y.runAt(0), 1);
    // a joker first
    DealtSea z = of(head(2, 2, "calm") + islands("jf1", "pf5", "pf9"));
    due("runAt(0), not the joker", z.runAt(0), 1);
  }

  // ---- journeys

  private static void jokersAreNotGoneThrough() {
    // jokers from 4 to 6: a wall between the upper row and the lower one
    DealtSea x = of(head(4, 3, "calm") + islands("pf1", "pf1", "pf1", "pf1", "jf1", "jf1", "jf1", "pf1", "pf1", "pf1", "pf1", "pf1"));
    yes(x, "journey(0, 8) around", 8, () -> x.journey(0, 8));
    yes(x, "journey(0, 4), a joker last", 1, () -> x.journey(0, 4));
    yes(x, "journey(4, 8), a joker first", 1, () -> x.journey(4, 8));
    yes(x, "journey(4, 5), jokers both", 1, () -> x.journey(4, 5));
    yes(x, "journey(4, 6), jokers both, none gone through", 4, () -> x.journey(4, 6));
    yes(x, "journey(5, 5), a joker itself", 0, () -> x.journey(5, 5));
    DealtSea walled = of(head(2, 2, "calm") + islands("pf1", "jf1", "jf1", "pf1"));
    yes(walled, "journey(0, 3), walled off", -2, () -> walled.journey(0, 3));
    yes(walled, "journey(0, 0)", 0, () -> walled.journey(0, 0));
  }

  private static void journeysOutsideOfTheSea() {
    DealtSea x = of(head(3, 2, "tide") + alike(8, "pf1"));
    yes(x, "journey(0, 1), a corner", -2, () -> x.journey(0, 1));
    yes(x, "journey(1, 0), a corner", -2, () -> x.journey(1, 0));
    yes(x, "journey(1, 4)", 1, () -> x.journey(1, 4));
    yes(x, "journey(1, 6), a discard", -2, () -> x.journey(1, 6));
    yes(x, "journey(6, 7), discards", -2, () -> x.journey(6, 7));
    yes(x, "journey(7, 7), a discard", -2, () -> x.journey(7, 7));
    x.palm(7);
    yes(x, "journey(7, 1), palmed", -2, () -> x.journey(7, 1));
    yes(x, "journey(7, 7), palmed", -2, () -> x.journey(7, 7));
    for (int far : FAR) {
      no(x, "journey(" + far + ", 0)", 1, () -> x.journey(far, 0));
      no(x, "journey(0, " + far + ")", 1, () -> x.journey(0, far));
    }
    no(x, "journey(8, 0)", 1, () -> x.journey(8, 0));
    no(x, "journey(0, 8)", 1, () -> x.journey(0, 8));
  }

  private static void nearestIsAnotherOne() {
    DealtSea x = of(head(3, 2, "calm") + islands("ps1", "jw1", "ps1", "pf1", "ph1", "pf1", "pw1"));
    yes(x, "nearest(0, 3), not itself, around the joker", 4, () -> x.nearest(0, 3));
    yes(x, "nearest(0, 2), a joker", 1, () -> x.nearest(0, 2));
    yes(x, "nearest(1, 2), only itself and a discard", -2, () -> x.nearest(1, 2));
    yes(x, "nearest(0, 1)", 1, () -> x.nearest(0, 1));
    yes(x, "nearest(4, 0), only itself", -2, () -> x.nearest(4, 0));
    yes(x, "nearest(2, 1)", 1, () -> x.nearest(2, 1));
    yes(x, "nearest(6, 3), a discard", -2, () -> x.nearest(6, 3));
  }

  private static void nearestRefused() {
    DealtSea x = salt(3, 2, 2);
    for (int far : FAR) {
      no(x, "nearest(" + far + ", 0)", 1, () -> x.nearest(far, 0));
      no(x, "nearest(0, " + far + ")", 1, () -> x.nearest(0, far));
    }
    no(x, "nearest(3, 0)", 1, () -> x.nearest(3, 0));
    no(x, "nearest(0, 4)", 1, () -> x.nearest(0, 4));
    yes(x, "nearest(2, 3)", 1, () -> x.nearest(2, 3));
    x.palm(0);
    yes(x, "nearest(0, 3), palmed", -2, () -> x.nearest(0, 3));
  }

  // ---- wishes, people

  private static void wishesNoneAndAll() {
    DealtSea none = salt(2, 2, 2);
    yes(none, "wishes() without any", 0, none::wishes);
    String six = ";wish a b;wish c b;wish a d;wish e d;wish e f;wish b e";
    DealtSea x = of(head(3, 2, "calm") + alike(6, "jf1") + six);
    yes(x, "wishes(), all of jokers", 6, x::wishes);
    DealtSea tide = of(head(3, 2, "tide") + alike(6, "jf1") + six);
    yes(tide, "wishes() at a tide", 1, tide::wishes);
    DealtSea y = of(head(2, 2, "calm") + alike(6, "pf1") + ";wish a e;wish e f;wish a d;wish a b");
    yes(y, "wishes(), of discards and across none", 1, y::wishes);
    y.palm(0);
    yes(y, "wishes() of a palmed one", 0, y::wishes);
  }

  private static void crowdLeastAndMost() {
    due("crowd() of jokers", of(head(2, 2, "calm") + alike(4, "jf1 99")).crowd(), 0);
    due("crowd() without people", of(head(2, 2, "calm") + alike(4, "pf1 0")).crowd(), 0);
    due("crowd() of all", of(head(4, 3, "calm") + alike(12, "pf1 99")).crowd(), 1188);
    due("crowd() without the discards", of(head(2, 2, "calm") + islands("pf1 1", "pf1 2", "pf1 4", "pf1 8", "pf1 99")).crowd(), 15);
    due("crowd() at a tide, alone", of(head(2, 2, "tide") + islands("pf1 1", "pf1 2", "pf1 4", "jf1 8")).crowd(), 4);
    due("crowd() beside jokers, across from each other", of(head(2, 2, "calm") + islands("pf1 5", "jf1 99", "jf1 99", "pf1 6")).crowd(), 6);
    due("crowd(), the row's end and the next row's start", of(head(3, 2, "calm") + islands("jf1 0", "jf1 0", "pf1 5", "pf1 6", "jf1 0", "jf1 0")).crowd(), 6);
  }

  private static void peopleOfTheSea() {
    DealtSea x = of(head(2, 2, "calm") + islands("pf1 99", "jf1 99", "mf1 99", "ps1 0", "pf1 50", "pw1 7"));
    yes(x, "people(1), jokers too, discards not", 297, () -> x.people(1));
    yes(x, "people(0), none", 0, () -> x.people(0));
    yes(x, "people(3), without people", 0, () -> x.people(3));
    yes(x, "people(2), a discard", 0, () -> x.people(2));
    no(x, "people(4)", 1, () -> x.people(4));
    for (int far : FAR) no(x, "people(" + far + ")", 1, () -> x.people(far));
    x.palm(0);
    yes(x, "people(1), one palmed, one came in", 248, () -> x.people(1));
    due("people(1) of all", of(head(4, 3, "calm") + alike(12, "pf1 99")).people(1), 1188);
  }

  // ---- the plan

  private static String plan(int n, String moves) {
    StringBuilder t = new StringBuilder(head(2, 2, "calm") + alike(n, "ps1"));
    String[] parts = moves.split(",");
    for (int k = 0; k < parts.length; k++) t.append(";family x").append((char) ('a' + k)).append(' ').append(parts[k]);
    return t.toString();
  }

  private static void plannedBehindNoneAndAll() {
    DealtSea x = of(plan(5, "cut 1,cut 1,cut 1,cut 1,cut 1,cut 1,cut 1,cut 1,cut 1,cut 1"));
    for (int k = 0; k <= 10; k++) { int moves = k; yes(x, "planned(0, " + k + ")", k % 5, () -> x.planned(0, moves)); }
    no(x, "planned(0, 11)", 2, () -> x.planned(0, 11));
    for (int far : FAR) no(x, "planned(0, " + far + ")", 2, () -> x.planned(0, far));
    no(x, "planned(5, 0)", 1, () -> x.planned(5, 0));
    for (int far : FAR) no(x, "planned(" + far + ", 99), the place ahead of the number", 1, () -> x.planned(far, 99));
    // the deck as told, whatever has been done with it since
    x.deal(2);
    x.palm(0);
    yes(x, "planned(4, 0)", 4, () -> x.planned(4, 0));
    yes(x, "planned(4, 10)", 4, () -> x.planned(4, 10));
    DealtSea none = salt(3, 2, 2);
    yes(none, "planned(2, 0) without a plan", 2, () -> none.planned(2, 0));
    no(none, "planned(2, 1) without a plan", 2, () -> none.planned(2, 1));
  }

  private static void plannedTradesBehindNoneAndAll() {
    // a and d trade only beside each other: a b / c d, then d a / b c
    DealtSea x = of(head(2, 2, "calm") + islands("pf1", "ps1", "pw1", "pf1") + ";family x cut 3");
    yes(x, "plannedTrades(0)", 0, () -> x.plannedTrades(0));
    yes(x, "plannedTrades(1)", 2, () -> x.plannedTrades(1));
    no(x, "plannedTrades(2)", 2, () -> x.plannedTrades(2));
    for (int far : FAR) no(x, "plannedTrades(" + far + ")", 2, () -> x.plannedTrades(far));
    x.deal(5);
    yes(x, "plannedTrades(0), the deck as told", 0, () -> x.plannedTrades(0));
  }

  private static void judgeFirstAndNone() {
    DealtSea none = of(plan(3, "out"));
    yes(none, "judge() without shows", -2, none::judge);
    // behind cut 1: b c a
    String cut = plan(3, "cut 1");
    String[] shows = {"shows 0 b;shows 1 c;shows 2 a", "shows 0 a;shows 1 c", "shows 0 b;shows 0 b;shows 0 b;shows 0 b;shows 0 b;shows 2 b", "shows 0 b;shows 3 a", "shows 0 b;shows 0 c;shows 0 a"};
    int[] want = {-2, 0, 5, 1, 1};
    for (int k = 0; k < shows.length; k++) { DealtSea x = of(cut + ";" + shows[k]); yes(x, "judge() of " + shows[k], want[k], x::judge); }
    DealtSea still = of(head(2, 2, "calm") + alike(2, "ps1") + ";shows 1 b");
    yes(still, "judge() without a plan", -2, still::judge);
    still.deal(2);
    yes(still, "judge(), the deck as told", -2, still::judge);
  }

  private static void fitsWithoutShows() {
    int[] two = {1, 4, 16, 64}, twelve = {1, 14, 196, 2744};
    DealtSea x = salt(2, 2, 2), y = salt(12, 4, 3);
    for (int k = 0; k <= 3; k++) {
      int rows = k;
      yes(x, "fits(" + k + ") of two", two[k], () -> x.fits(rows));
      yes(y, "fits(" + k + ") of twelve", twelve[k], () -> y.fits(rows));
    }
    for (int far : new int[] {-1, 4, Integer.MIN_VALUE, Integer.MAX_VALUE}) no(y, "fits(" + far + ")", 2, () -> y.fits(far));
    yes(y, "fitAt(3, 2), the first of all", 0, () -> y.fitAt(3, 2));
    y.palm(0);
    yes(y, "fits(1), the deck as told", 14, () -> y.fits(1));
  }

  private static void fitsOfShows() {
    // two cards that must change: in, turn and cut 1 do, out doesn't; an odd number of changes in three
    DealtSea x = of(head(2, 2, "calm") + alike(2, "ps1") + ";shows 0 b");
    int[] want = {0, 3, 6, 36};
    for (int k = 0; k <= 3; k++) { int rows = k; yes(x, "fits(" + k + ")", want[k], () -> x.fits(rows)); }
    yes(x, "fitAt(1, 0)", 1, () -> x.fitAt(1, 0));
    yes(x, "fitAt(2, 0)", 0, () -> x.fitAt(2, 0));
    yes(x, "fitAt(2, 1)", 1, () -> x.fitAt(2, 1));
    DealtSea planned = of(head(2, 2, "calm") + alike(2, "ps1") + ";family x turn;shows 0 b;shows 1 a");
    yes(planned, "fits(0), all are so behind the plan", 1, () -> planned.fits(0));
    DealtSea empty = of(head(2, 2, "calm") + alike(2, "ps1") + ";shows 2 b");
    for (int k = 0; k <= 3; k++) { int rows = k; yes(empty, "fits(" + k + "), a place without a card", 0, () -> empty.fits(rows)); }
    yes(empty, "fitAt(3, 0), none", -2, () -> empty.fitAt(3, 0));
  }

  private static void fitsByDealing() {
    // of five cards, c at 1 and a at 3: which moves bring them there, by trying each
    for (String shows : new String[] {";shows 1 c", ";shows 3 a;shows 1 c", ";shows 2 e;shows 0 b", ";shows 3 d"}) {
      String text = head(2, 2, "calm") + alike(5, "ps1");
      String[] parts = shows.substring(1).split(";");
      DealtSea x = of(text + shows);
      DealtSea dealt = of(text);
      int one = 0, first = -2, two = 0, pair = -2;
      for (int a = 0; a < 7; a++) {
        dealt.deal(a);
        if (areSo(dealt, parts) && one++ == 0) first = a;
        for (int b = 0; b < 7; b++) {
          dealt.deal(b);
          if (areSo(dealt, parts) && two++ == 0) pair = 100 * a + b;
          dealt.undo();
        }
        dealt.undo();
      }
      int ones = one, firsts = first, twos = two, pairs = pair;
      yes(x, "fits(1) of " + shows, ones, () -> x.fits(1));
      yes(x, "fitAt(1, 0) of " + shows, firsts, () -> x.fitAt(1, 0));
      yes(x, "fits(2) of " + shows, twos, () -> x.fits(2));
      yes(x, "fitAt(2, ..) of " + shows, pairs, () -> pairs == -2 ? x.fitAt(2, 0) : 100 * x.fitAt(2, 0) + x.fitAt(2, 1));
    }
  }

  private static boolean areSo(DealtSea x, String[] shows) {
    for (String line : shows) if (x.card(line.charAt(6) - '0') != line.charAt(8) - 'a') return false;
    return true;
  }

  private static void fitsBehindThePlan() {
    // cut 1 is the plan: b c d e a; a turn more brings a e d c b
    DealtSea x = of(plan(5, "cut 1") + ";shows 1 e");
    yes(x, "fits(0)", 0, () -> x.fits(0));
    // e lies at 3 behind the plan: out brings it to 1, in to 2, a turn to 1, cuts to 2, 1, 0, 4
    yes(x, "fits(1)", 3, () -> x.fits(1));
    yes(x, "fitAt(1, 0)", 0, () -> x.fitAt(1, 0));
    x.deal(1);
    yes(x, "fits(1), the deck as told", 3, () -> x.fits(1));
  }

  private static void fitAtRefused() {
    DealtSea x = salt(2, 2, 2);
    no(x, "fitAt(0, 0)", 1, () -> x.fitAt(0, 0));
    for (int k = 1; k <= 3; k++) {
      int rows = k;
      yes(x, "fitAt(" + k + ", " + (k - 1) + ")", 0, () -> x.fitAt(rows, rows - 1));
      no(x, "fitAt(" + k + ", " + k + ")", 1, () -> x.fitAt(rows, rows));
      no(x, "fitAt(" + k + ", -1)", 1, () -> x.fitAt(rows, -1));
    }
    for (int far : new int[] {-1, 4, Integer.MIN_VALUE, Integer.MAX_VALUE}) no(x, "fitAt(" + far + ", -1), the number ahead of i", 2, () -> x.fitAt(far, -1));
    DealtSea none = of(head(2, 2, "calm") + alike(2, "ps1") + ";shows 2 b");
    no(none, "fitAt(1, 1), no such i though there is no row", 1, () -> none.fitAt(1, 1));
  }

  /** How often a row of places must be gone through till all are back, by its circles. */
  private static long orderOf(int[] goes) {
    BigInteger order = BigInteger.ONE;
    for (int p = 0; p < goes.length; p++) {
      int length = 1;
      for (int q = goes[p]; q != p; q = goes[q]) length++;
      BigInteger l = BigInteger.valueOf(length);
      order = order.multiply(l).divide(order.gcd(l));
    }
    return order.longValueExact();
  }

  private static void againFewestAndMany() {
    DealtSea none = salt(3, 2, 2);
    yes(none, "again() without a plan", 1, none::again);
    DealtSea back = of(plan(7, "turn,turn"));
    yes(back, "again() of a plan that changes nothing", 1, back::again);
    long most = 0;
    String[] moves = {"out", "in", "turn", "cut 1", "cut 2", "cut 5"};
    for (int n = 2; n <= 12; n++) {
      for (String one : moves) {
        for (String two : moves) {
          DealtSea x = of(plan(n, one + "," + two));
          int[] goes = new int[n];
          for (int p = 0; p < n; p++) goes[p] = x.planned(p, 2);
          long due = orderOf(goes);
          most = Math.max(most, due);
          yes(x, "again() of " + one + ", " + two + " of " + n, due, x::again);
        }
      }
    }
    due("a plan that must be made more often than there are cards is among them", most > 12 ? 1 : 0, 1);
  }

  private static void cycleOfAllMoves() {
    for (int n = 2; n <= 12; n++) {
      for (int m = 0; m < n + 2; m++) {
        int move = m;
        DealtSea x = salt(n, 2, 2);
        x.deal(1);
        String start = deck(x);
        long times = 0;
        do { x.deal(move); times++; } while (!deck(x).equals(start) && times < 100);
        yes(x, "cycle(" + m + ") of " + n, times, () -> x.cycle(move));
      }
    }
    DealtSea x = salt(2, 2, 2);
    for (int far : FAR) no(x, "cycle(" + far + ")", 1, () -> x.cycle(far));
  }

  // ---- where it can be

  private static void canBehindNoneAndTwelve() {
    DealtSea x = salt(12, 4, 3);
    for (int i = 0; i < 12; i++) {
      int island = i;
      yes(x, "can(" + i + ", 0)", 1 << i, () -> x.can(island, 0));
      yes(x, "can(" + i + ", 12)", 4095, () -> x.can(island, 12));
    }
    no(x, "can(0, 13)", 2, () -> x.can(0, 13));
    for (int far : FAR) no(x, "can(0, " + far + ")", 2, () -> x.can(0, far));
    no(x, "can(12, 13), the island ahead of the number", 1, () -> x.can(12, 13));
    for (int far : FAR) no(x, "can(" + far + ", 0)", 1, () -> x.can(far, 0));
    x.palm(3);
    no(x, "can(3, 13), palmed", 1, () -> x.can(3, 13));
    yes(x, "can(4, 0), one place up", 8, () -> x.can(4, 0));
    yes(x, "can(4, 12) of eleven", 2047, () -> x.can(4, 12));
    // two cards: out leaves it, the others bring it to the other place
    DealtSea two = salt(2, 2, 2);
    yes(two, "can(0, 1)", 3, () -> two.can(0, 1));
  }

  private static void oddsBehindNoneAndEight() {
    for (int n = 2; n <= 12; n++) {
      DealtSea x = salt(n, 2, 2);
      long rows = 1;
      for (int k = 0; k < 8; k++) rows *= n + 2;
      long sum = 0;
      for (int p = 0; p < n; p++) {
        long upper = x.odds(1, 8, p, false), lower = x.odds(1, 8, p, true);
        due("rows of moves by the lower whole", lower > 0 && rows % lower == 0 ? 1 : 0, 1);
        due("in lowest terms", BigInteger.valueOf(upper).gcd(BigInteger.valueOf(lower)).longValueExact(), 1);
        sum += upper * (rows / lower);
        int place = p;
        yes(x, "odds(1, 0, " + p + ", false)", p == 1 ? 1 : 0, () -> x.odds(1, 0, place, false));
        yes(x, "odds(1, 0, " + p + ", true), 0 by 1", 1, () -> x.odds(1, 0, place, true));
      }
      due("all odds together of " + n, sum, rows);
    }
  }

  private static void oddsOfTwoCards() {
    // by one move 3 of 4 change; by two 10 of 16 leave it, by eight 1/2 and 1/2 to the ninth
    DealtSea x = salt(2, 2, 2);
    yes(x, "odds(0, 1, 1, false)", 3, () -> x.odds(0, 1, 1, false));
    yes(x, "odds(0, 1, 1, true)", 4, () -> x.odds(0, 1, 1, true));
    yes(x, "odds(0, 2, 0, false)", 5, () -> x.odds(0, 2, 0, false));
    yes(x, "odds(0, 2, 0, true)", 8, () -> x.odds(0, 2, 0, true));
    yes(x, "odds(0, 8, 0, false)", 257, () -> x.odds(0, 8, 0, false));
    yes(x, "odds(0, 8, 0, true)", 512, () -> x.odds(0, 8, 0, true));
  }

  private static void oddsRefused() {
    DealtSea x = salt(3, 2, 2);
    for (boolean lower : new boolean[] {false, true}) {
      no(x, "odds(0, 9, 0)", 2, () -> x.odds(0, 9, 0, lower));
      for (int far : FAR) {
        no(x, "odds(0, " + far + ", 0)", 2, () -> x.odds(0, far, 0, lower));
        no(x, "odds(" + far + ", 9, 0), the island ahead of the number", 1, () -> x.odds(far, 9, 0, lower));
        no(x, "odds(0, 9, " + far + "), the place ahead of the number", 1, () -> x.odds(0, 9, far, lower));
      }
      no(x, "odds(3, 0, 0)", 1, () -> x.odds(3, 0, 0, lower));
      no(x, "odds(0, 0, 3)", 1, () -> x.odds(0, 0, 3, lower));
    }
    x.palm(0);
    no(x, "odds(0, 0, 0), palmed", 1, () -> x.odds(0, 0, 0, true));
    no(x, "odds(1, 0, 2) of two", 1, () -> x.odds(1, 0, 2, true));
    yes(x, "odds(1, 1, 1) of two", 4, () -> x.odds(1, 1, 1, true));
  }

  private static void inSeaNeverAndAlways() {
    DealtSea all = salt(4, 2, 2);
    DealtSea more = salt(5, 2, 2);
    for (int k = 0; k <= 8; k++) {
      int moves = k;
      yes(all, "inSea(3, " + k + ", false), room for all", 1, () -> all.inSea(3, moves, false));
      yes(all, "inSea(3, " + k + ", true), room for all", 1, () -> all.inSea(3, moves, true));
      due("the lower whole is the greater one", more.inSea(0, moves, true) >= more.inSea(0, moves, false) ? 1 : 0, 1);
    }
    yes(more, "inSea(4, 0, false), 0 by 1", 0, () -> more.inSea(4, 0, false));
    yes(more, "inSea(4, 0, true), 0 by 1", 1, () -> more.inSea(4, 0, true));
    yes(more, "inSea(3, 0, false)", 1, () -> more.inSea(3, 0, false));
    // a deck's first card: out leaves it, in brings it to 1, a turn to 4, cuts to 4, 3, 2, 1
    yes(more, "inSea(0, 1, false)", 5, () -> more.inSea(0, 1, false));
    yes(more, "inSea(0, 1, true)", 7, () -> more.inSea(0, 1, true));
    no(more, "inSea(0, 9, true)", 2, () -> more.inSea(0, 9, true));
    for (int far : FAR) {
      no(more, "inSea(0, " + far + ", true)", 2, () -> more.inSea(0, far, true));
      no(more, "inSea(" + far + ", 9, true)", 1, () -> more.inSea(far, 9, true));
    }
    no(more, "inSea(5, 0, true)", 1, () -> more.inSea(5, 0, true));
    more.palm(0);
    no(more, "inSea(0, 0, true), palmed", 1, () -> more.inSea(0, 0, true));
    yes(more, "inSea(4, 0, false), it came in", 1, () -> more.inSea(4, 0, false));
  }

  private static void alikeAtOnceAndNever() {
    DealtSea x = salt(2, 2, 2);
    int[] percents = {100, 99, 51, 50, 49, 26, 25, 24, 13, 12, 7, 6, 4, 3, 2, 1, 0};
    int[] want = {0, 1, 1, 1, 2, 2, 2, 3, 3, 4, 4, 5, 5, 6, 6, 7, -2};
    for (int k = 0; k < percents.length; k++) { int percent = percents[k]; yes(x, "alike(0, " + percent + ")", want[k], () -> x.alike(0, percent)); }
    no(x, "alike(0, 101)", 2, () -> x.alike(0, 101));
    for (int far : FAR) {
      no(x, "alike(0, " + far + ")", 2, () -> x.alike(0, far));
      no(x, "alike(" + far + ", 101), the island ahead of the number", 1, () -> x.alike(far, 101));
    }
    no(x, "alike(2, 0)", 1, () -> x.alike(2, 0));
    DealtSea three = salt(3, 2, 2);
    three.palm(0);
    no(three, "alike(0, 100), palmed", 1, () -> three.alike(0, 100));
    yes(three, "alike(1, 50) of two", 1, () -> three.alike(1, 50));
  }

  // ---- moves that bring it there

  private static void fewestNoneAndOne() {
    for (int n = 2; n <= 12; n++) {
      for (int i = 0; i < n; i++) {
        DealtSea x = salt(n, 2, 2);
        for (int p = 0; p < n; p++) {
          int island = i, place = p;
          // a cut brings any card anywhere
          yes(x, "fewest(" + i + ", " + p + ") of " + n, i == p ? 0 : 1, () -> x.fewest(island, place));
          if (i == p) no(x, "moveAt(" + i + ", " + p + ", 0)", 1, () -> x.moveAt(island, place, 0));
          else no(x, "moveAt(" + i + ", " + p + ", 1)", 1, () -> x.moveAt(island, place, 1));
        }
      }
    }
  }

  private static void moveAtIsTheFirstByNumbers() {
    DealtSea x = salt(5, 2, 2);
    // from 0: out leaves it, in brings it to 1, a turn to 4, cut 2 to 3, cut 3 to 2
    int[] want = {-1, 1, 5, 4, 2};
    for (int p = 1; p < 5; p++) { int place = p; yes(x, "moveAt(0, " + p + ", 0)", want[p], () -> x.moveAt(0, place, 0)); }
    // from 1: out brings it to 2, in to 3, a turn to 3, cut 1 to 0, cut 2 to 4
    int[] next = {3, -1, 0, 1, 4};
    for (int p = 0; p < 5; p++) { int place = p; if (p != 1) yes(x, "moveAt(1, " + p + ", 0)", next[p], () -> x.moveAt(1, place, 0)); }
    for (int far : FAR) no(x, "moveAt(0, 1, " + far + ")", 1, () -> x.moveAt(0, 1, far));
  }

  /** One object searches for one, two and three cards in turn, and answers as a new one does. */
  private static void searchesInTurn() {
    for (String size : new String[] {head(3, 2, "tide"), head(2, 2, "calm"), head(3, 3, "tide")}) {
      String text = size + alike(7, "ps1");
      DealtSea x = of(text);
      for (int i = 0; i < 7; i++) {
        int j = (i + 3) % 7, k = (i + 5) % 7;
        due("fewest(" + i + ", " + j + ")", x.fewest(i, j), of(text).fewest(i, j));
        due("together(" + i + ", " + j + ")", x.together(i, j), of(text).together(i, j));
        due("moveAt(" + i + ", " + j + ", 0)", x.moveAt(i, j, 0), of(text).moveAt(i, j, 0));
        due("three(" + i + ", " + j + ", " + k + ")", x.three(i, j, k), of(text).three(i, j, k));
        due("togetherAt(" + i + ", " + k + ", 0)", x.togetherAt(i, k, 0), of(text).togetherAt(i, k, 0));
        due("fewest(" + i + ", " + k + ")", x.fewest(i, k), 1);
      }
    }
  }

  /** What moves a search tells are made: behind them, and not earlier, the two lie beside each other. */
  private static void togetherByDealing() {
    for (String size : new String[] {head(3, 2, "tide"), head(2, 3, "tide"), head(3, 3, "tide"), head(2, 2, "calm"), head(4, 2, "calm")}) {
      for (int n = 6; n <= 12; n += 3) {
        DealtSea x = of(size + alike(n, "ps1"));
        for (int i = 1; i < n; i++) {
          int length = x.together(0, i);
          if (n == 9 && neverOfNine(size, i)) { due("together(0, " + i + ") in " + size + " of 9", length, -2); continue; }
          int[] moves = new int[Math.max(length, 0)];
          for (int k = 0; k < moves.length; k++) moves[k] = x.togetherAt(0, i, k);
          for (int k = 0; k < moves.length; k++) { due("apart behind " + k + " moves", x.beside(0) >> i & 1, 0); x.deal(moves[k]); }
          due("together(0, " + i + ") in " + size + " of " + n, x.beside(0) >> i & 1, 1);
          for (int k = 0; k < moves.length; k++) x.undo();
        }
      }
    }
  }

  /** How far apart two of nine cards lie is doubled or turned round, by nine, by each move: threes stay threes. */
  private static boolean neverOfNine(String size, int apart) {
    if (size.equals(head(3, 3, "tide"))) return false;
    // at this tide only places 1 and 4 are beside each other, in other seas here only such that are 1, 2 or 4 apart
    return size.equals(head(3, 2, "tide")) ? apart % 3 != 0 : apart % 3 == 0;
  }

  private static void togetherNeverThoughOthersDo() {
    DealtSea x = salt(9, 2, 2);
    yes(x, "together(0, 3)", -2, () -> x.together(0, 3));
    no(x, "togetherAt(0, 3, 0)", 1, () -> x.togetherAt(0, 3, 0));
    yes(x, "together(4, 5)", 1, () -> x.together(4, 5));
    yes(x, "together(8, 2)", -2, () -> x.together(8, 2));
    yes(x, "three(0, 3, 6)", -2, () -> x.three(0, 3, 6));
    yes(x, "three(0, 3, 1), by the other two pairs", 0, () -> x.three(0, 3, 1));
    yes(x, "three(0, 1, 2)", 0, () -> x.three(0, 1, 2));
    yes(x, "together(0, 3)", -2, () -> x.together(0, 3));
  }

  private static void fewestRefused() {
    DealtSea x = salt(3, 2, 2);
    for (int far : FAR) {
      no(x, "fewest(" + far + ", 0)", 1, () -> x.fewest(far, 0));
      no(x, "fewest(0, " + far + ")", 1, () -> x.fewest(0, far));
      no(x, "moveAt(" + far + ", 0, 0)", 1, () -> x.moveAt(far, 0, 0));
      no(x, "moveAt(0, " + far + ", 0)", 1, () -> x.moveAt(0, far, 0));
    }
    no(x, "fewest(3, 0)", 1, () -> x.fewest(3, 0));
    no(x, "fewest(0, 3)", 1, () -> x.fewest(0, 3));
    x.palm(0);
    no(x, "fewest(0, 0), palmed", 1, () -> x.fewest(0, 0));
    no(x, "moveAt(0, 1, 0), palmed", 1, () -> x.moveAt(0, 1, 0));
    no(x, "fewest(1, 2) of two", 1, () -> x.fewest(1, 2));
    yes(x, "fewest(1, 1) of two", 1, () -> x.fewest(1, 1));
    yes(x, "moveAt(1, 1, 0) of two", 1, () -> x.moveAt(1, 1, 0));
  }

  private static void togetherNoneAndNever() {
    DealtSea x = salt(4, 2, 2);
    yes(x, "together(0, 1), they are", 0, () -> x.together(0, 1));
    no(x, "togetherAt(0, 1, 0), there are no moves", 1, () -> x.togetherAt(0, 1, 0));
    yes(x, "together(3, 0)", 1, () -> x.together(3, 0));
    yes(x, "togetherAt(3, 0, 0), cut 1", 3, () -> x.togetherAt(3, 0, 0));
    no(x, "togetherAt(3, 0, 1)", 1, () -> x.togetherAt(3, 0, 1));
    for (int far : FAR) no(x, "togetherAt(3, 0, " + far + ")", 1, () -> x.togetherAt(3, 0, far));
    DealtSea tide = of(head(2, 2, "tide") + alike(6, "ps1"));
    yes(tide, "together(0, 1), all are corners", -2, () -> tide.together(0, 1));
    no(tide, "togetherAt(0, 1, 0)", 1, () -> tide.togetherAt(0, 1, 0));
    // places 2 and 3 alone are beside each other at this tide, and three cards don't reach there
    DealtSea few = of(head(2, 3, "tide") + alike(3, "ps1"));
    yes(few, "together(0, 1), too few cards", -2, () -> few.together(0, 1));
    DealtSea four = of(head(2, 3, "tide") + alike(4, "ps1"));
    yes(four, "together(2, 3)", 0, () -> four.together(2, 3));
    yes(four, "together(0, 1), cut 2", 1, () -> four.together(0, 1));
    yes(four, "togetherAt(0, 1, 0), a turn", 2, () -> four.togetherAt(0, 1, 0));
  }

  private static void togetherRefused() {
    DealtSea x = salt(4, 2, 2);
    for (int far : FAR) {
      no(x, "together(" + far + ", 0)", 1, () -> x.together(far, 0));
      no(x, "together(0, " + far + ")", 1, () -> x.together(0, far));
      no(x, "togetherAt(" + far + ", 0, 0)", 1, () -> x.togetherAt(far, 0, 0));
      no(x, "togetherAt(0, " + far + ", 0)", 1, () -> x.togetherAt(0, far, 0));
    }
    no(x, "together(4, 0)", 1, () -> x.together(4, 0));
    no(x, "together(0, 4)", 1, () -> x.together(0, 4));
    no(x, "together(2, 2), alike", 1, () -> x.together(2, 2));
    no(x, "togetherAt(2, 2, 0), alike", 1, () -> x.togetherAt(2, 2, 0));
    x.palm(3);
    no(x, "together(3, 0), palmed", 1, () -> x.together(3, 0));
    no(x, "together(0, 3), palmed", 1, () -> x.together(0, 3));
    no(x, "togetherAt(0, 3, 0), palmed", 1, () -> x.togetherAt(0, 3, 0));
    // a b / c: b and c lie across from each other; in brings b a / c
    yes(x, "together(1, 2) of three", 1, () -> x.together(1, 2));
    yes(x, "togetherAt(1, 2, 0) of three", 1, () -> x.togetherAt(1, 2, 0));
  }

  private static void threeNoneAndNever() {
    DealtSea x = salt(4, 2, 2);
    yes(x, "three(0, 1, 2), they do", 0, () -> x.three(0, 1, 2));
    yes(x, "three(3, 1, 0), in another order", 0, () -> x.three(3, 1, 0));
    DealtSea tide = of(head(3, 2, "tide") + alike(6, "ps1"));
    yes(tide, "three(0, 1, 2), two places alone hang together", -2, () -> tide.three(0, 1, 2));
    DealtSea row = salt(5, 4, 2);
    // 0 1 2 3 / 4: 0 1 4 hang together, 0 2 4 don't: of 2 only 1, 3 are beside; out: a d b e / c, in: c a d b / e
    yes(row, "three(0, 1, 4)", 0, () -> row.three(0, 1, 4));
    yes(row, "three(1, 2, 3)", 0, () -> row.three(1, 2, 3));
    yes(row, "three(0, 2, 3), in: c a d b / e", 1, () -> row.three(0, 2, 3));
    DealtSea three = salt(3, 4, 3);
    yes(three, "three(0, 1, 2) of three in a row", 0, () -> three.three(0, 1, 2));
  }

  private static void threeRefused() {
    DealtSea x = salt(4, 2, 2);
    for (int far : FAR) {
      no(x, "three(" + far + ", 0, 1)", 1, () -> x.three(far, 0, 1));
      no(x, "three(0, " + far + ", 1)", 1, () -> x.three(0, far, 1));
      no(x, "three(0, 1, " + far + ")", 1, () -> x.three(0, 1, far));
    }
    no(x, "three(4, 0, 1)", 1, () -> x.three(4, 0, 1));
    no(x, "three(0, 4, 1)", 1, () -> x.three(0, 4, 1));
    no(x, "three(0, 1, 4)", 1, () -> x.three(0, 1, 4));
    no(x, "three(0, 0, 1), alike", 1, () -> x.three(0, 0, 1));
    no(x, "three(0, 1, 0), alike", 1, () -> x.three(0, 1, 0));
    no(x, "three(1, 0, 0), alike", 1, () -> x.three(1, 0, 0));
    no(x, "three(0, 0, 0), alike", 1, () -> x.three(0, 0, 0));
    x.palm(2);
    no(x, "three(2, 0, 1), palmed", 1, () -> x.three(2, 0, 1));
    no(x, "three(0, 2, 1), palmed", 1, () -> x.three(0, 2, 1));
    no(x, "three(0, 1, 2), palmed", 1, () -> x.three(0, 1, 2));
    DealtSea two = salt(2, 2, 2);
    no(two, "three(0, 1, 2) of two", 1, () -> two.three(0, 1, 2));
  }

  // ---- what is best

  private static void bestOfLikeOnesIsTheFirst() {
    for (int n = 2; n <= 12; n++) {
      DealtSea x = of(head(2, 2, "calm") + alike(n, "jf1"));
      yes(x, "best() of jokers", 0, x::best);
      yes(x, "bestTrades() of jokers", 0, x::bestTrades);
      yes(x, "bestTwo() of jokers", 0, x::bestTwo);
      yes(x, "exchange() of jokers", 1, x::exchange);
    }
  }

  private static void bestMoveMustBeMade() {
    // at a tide of 2 by 3 only places 2 and 3 are beside each other
    DealtSea x = of(head(2, 3, "tide") + islands("jf1", "jf1", "ps1", "ps1"));
    due("trades()", x.trades(), 1);
    // out: a c b d; in: c a d b; turn: d c b a; cut 1: b c d a with c d at 1 2; cut 2: c d a b; cut 3: d a b c
    yes(x, "best(), none keeps them there", 0, x::best);
    yes(x, "bestTrades()", 0, x::bestTrades);
    yes(x, "bestTwo(), out twice", 0, x::bestTwo);
    // exchanging a and b leaves them there
    yes(x, "exchange()", 1, x::exchange);
  }

  private static void bestTwoByNumbers() {
    // d and e must lie at 2 and 3 of five cards a b c d e
    DealtSea x = of(head(2, 3, "tide") + islands("jf1", "jf1", "jf1", "ps1", "ps1"));
    // out: a d b e c; in: c a d b e; turn: e d c b a; cut 1: b c d e a, which brings them there
    yes(x, "best(), cut 1", 3, x::best);
    yes(x, "bestTrades()", 1, x::bestTrades);
    // out and out: a e d c b; and in: b a e d c, which has e d at 2 3
    yes(x, "bestTwo(), out and in", 1, x::bestTwo);
    // d at 3 already: e must come to 2, by an exchange of 2 and 4
    yes(x, "exchange()", 204, x::exchange);
  }

  private static void exchangeByNumbers() {
    // two of salt at 9 and 11 of 4 by 3: 5 is above 9, so 5 and 11 is the least pair that brings them beside
    DealtSea x = of(head(4, 3, "calm") + islands("jf1", "jf1", "jf1", "jf1", "jf1", "jf1", "jf1", "jf1", "jf1", "ps1", "jf1", "ps1"));
    yes(x, "exchange()", 511, x::exchange);
    deckIs("exchange()", x, row(12, p -> p));
    DealtSea two = of(head(2, 2, "calm") + islands("ps1", "ps1"));
    yes(two, "exchange() of two", 1, two::exchange);
  }

  private static final String[][] SEAS = {
    // two moves can do less here than one: no MOVE leaves the deck as it is
    {head(4, 2, "tide"), "pf1", "js1", "js1", "pf1", "mf1", "jf1"},
    {head(4, 3, "tide"), "ms1", "mf1", "mf1", "js1", "ps1", "jf1", "js1"},
    {head(3, 3, "tide"), "js1", "jf1", "ps1", "ps1", "js1", "ps1", "js1"},
    {head(3, 3, "tide"), "mf1", "mf1", "jf1", "jf1", "js1", "ms1"},
    {head(4, 3, "tide"), "js1", "ms1", "js1", "mf1", "ps1", "mf1"},
    {head(2, 2, "calm"), "ms1", "jf1", "jf1", "mf1", "js1", "js1", "ms1", "jf1"},
    {head(2, 3, "calm"), "ms1", "js1", "js1", "js1", "jf1", "pf1", "ps1", "jf1"},
    {head(2, 2, "calm"), "pf1", "pf1"},
  };

  private static DealtSea of(String[] sea) { return of(sea[0] + islands(java.util.Arrays.copyOfRange(sea, 1, sea.length))); }

  private static void bestByDealing() {
    for (String[] sea : SEAS) {
      DealtSea x = of(sea);
      int most = -1, first = -1;
      for (int m = 0; m < x.size(9); m++) {
        int sum = x.deal(m);
        x.undo();
        if (sum > most) { most = sum; first = m; }
      }
      due("best() of " + String.join(" ", sea), x.best(), first);
      due("bestTrades() of " + String.join(" ", sea), x.bestTrades(), most);
    }
  }

  private static void bestTwoByDealing() {
    int later = 0;
    for (String[] sea : SEAS) {
      DealtSea x = of(sea);
      int most = -1, first = -1;
      for (int a = 0; a < x.size(9); a++) {
        x.deal(a);
        for (int b = 0; b < x.size(9); b++) {
          int sum = x.deal(b);
          x.undo();
          if (sum > most) { most = sum; first = 100 * a + b; }
        }
        x.undo();
      }
      due("bestTwo() of " + String.join(" ", sea), x.bestTwo(), first);
      if (first >= 200) later++;
    }
    due("some of them don't begin with out or in", later >= 3 ? 1 : 0, 1);
  }

  private static void exchangeByTelling() {
    for (String[] sea : SEAS) {
      int most = -1, first = -1;
      for (int p = 1; p < sea.length; p++) {
        for (int q = p + 1; q < sea.length; q++) {
          String[] changed = sea.clone();
          changed[p] = sea[q];
          changed[q] = sea[p];
          int sum = of(changed).trades();
          if (sum > most) { most = sum; first = 100 * (p - 1) + q - 1; }
        }
      }
      due("exchange() of " + String.join(" ", sea), of(sea).exchange(), first);
    }
  }

  private static void exchangeBehindAPalm() {
    // b c d are left, with one of salt alone: no exchange brings a trade
    DealtSea x = of(head(2, 2, "calm") + islands("js1", "js1", "js1", "ps1"));
    x.palm(0);
    yes(x, "exchange() of three", 1, x::exchange);
    DealtSea y = of(head(2, 2, "calm") + islands("ps1", "js1", "js1", "ps1"));
    y.palm(0);
    yes(y, "exchange(), the palmed one has no place", 1, y::exchange);
    due("bestTrades(), the palmed one has no place", y.bestTrades(), 0);
  }

  private static void bestLeavesTheDeck() {
    DealtSea x = salt(7, 3, 2);
    x.deal(1);
    String before = deck(x);
    x.best();
    x.bestTrades();
    x.bestTwo();
    x.exchange();
    x.gain(0, 1, 2, 3);
    x.rests(0, 1);
    x.decade(1, 50);
    x.cycle(3);
    x.again();
    x.three(0, 2, 4);
    deckIs("looking for the best", x, before);
    due("size(10)", x.size(10), 1);
  }

  // ---- two dealers

  private static void gainOfLikeGoods() {
    DealtSea x = of(head(2, 2, "calm") + islands("pf1", "pf1", "ps1", "ps1"));
    for (int good = 0; good < 4; good++) for (int move = 0; move < 6; move++) { int g = good, m = move; yes(x, "gain of like goods", 0, () -> x.gain(g, g, m, 5 - m)); }
    // turned twice: fish 2, salt 1
    yes(x, "gain(1, 3, 2, 2)", 1, () -> x.gain(1, 3, 2, 2));
    yes(x, "gain(3, 1, 2, 2), no refusal", -1, () -> x.gain(3, 1, 2, 2));
    yes(x, "gain(1, 0, 2, 2)", 2, () -> x.gain(1, 0, 2, 2));
    yes(x, "gain(0, 1, 2, 2)", -2, () -> x.gain(0, 1, 2, 2));
    due("gain, the most", of(head(4, 3, "calm") + alike(12, "mf1")).gain(1, 0, 2, 2), 51);
    due("gain, the least", of(head(4, 3, "calm") + alike(12, "mf1")).gain(0, 1, 2, 2), -51);
  }

  private static void gainRefused() {
    DealtSea x = salt(2, 2, 2);
    for (int far : FAR) {
      no(x, "gain(" + far + ", 0, 0, 0)", -1000, 1, () -> x.gain(far, 0, 0, 0));
      no(x, "gain(0, " + far + ", 0, 0)", -1000, 1, () -> x.gain(0, far, 0, 0));
      no(x, "gain(0, 0, " + far + ", 0)", -1000, 1, () -> x.gain(0, 0, far, 0));
      no(x, "gain(0, 0, 0, " + far + ")", -1000, 1, () -> x.gain(0, 0, 0, far));
    }
    no(x, "gain(4, 0, 0, 0)", -1000, 1, () -> x.gain(4, 0, 0, 0));
    no(x, "gain(0, 4, 0, 0)", -1000, 1, () -> x.gain(0, 4, 0, 0));
    yes(x, "gain(3, 3, 3, 3)", 0, () -> x.gain(3, 3, 3, 3));
    no(x, "gain(3, 3, 4, 3)", -1000, 1, () -> x.gain(3, 3, 4, 3));
    no(x, "gain(3, 3, 3, 4)", -1000, 1, () -> x.gain(3, 3, 3, 4));
  }

  private static void restsAllAndNone() {
    for (int n = 2; n <= 12; n++) {
      DealtSea x = salt(n, 2, 2);
      int moves = n + 2;
      yes(x, "rests(3, 3) of " + n + ", all", moves * moves, () -> x.rests(3, 3));
      yes(x, "rest(3, 3)", 0, () -> x.rest(3, 3));
    }
    DealtSea x = of(head(2, 2, "calm").replace("fish", "wool") + islands("pw1", "ps1", "ps1", "pw1"));
    yes(x, "rests(2, 3), none", 0, () -> x.rests(2, 3));
    yes(x, "rest(2, 3), none", -2, () -> x.rest(2, 3));
    for (int far : new int[] {-1, 4, Integer.MIN_VALUE, Integer.MAX_VALUE}) {
      no(x, "rests(" + far + ", 0)", 1, () -> x.rests(far, 0));
      no(x, "rests(0, " + far + ")", 1, () -> x.rests(0, far));
      no(x, "rest(" + far + ", 0)", 1, () -> x.rest(far, 0));
      no(x, "rest(0, " + far + ")", 1, () -> x.rest(0, far));
    }
    DealtSea three = salt(3, 2, 2);
    three.palm(0);
    yes(three, "rests(0, 1) of the two that are left", 16, () -> three.rests(0, 1));
  }

  /** A pair rests if no other move of the one brings more, and none of the other one's less; told by gain() alone. */
  private static void restsByTheirGains() {
    String[] seas = {islands("pf1", "mf1", "ps1", "ps1", "jw1"), islands("pf1", "ps1", "pw1", "pf1", "ps1", "pw1"), islands("mf1", "pf1", "ps1"), islands("pf1", "ps1", "pf1", "ps1", "pf1", "ps1", "pf1", "ps1")};
    for (String sea : seas) {
      for (String size : new String[] {head(3, 2, "calm"), head(2, 2, "calm"), head(3, 2, "tide")}) {
        DealtSea x = of(size + sea);
        int n = x.size(9), found = 0, first = -2;
        int[][] gains = new int[n][n];
        for (int a = 0; a < n; a++) for (int b = 0; b < n; b++) gains[a][b] = x.gain(1, 3, a, b);
        for (int a = 0; a < n; a++) {
          for (int b = 0; b < n; b++) {
            boolean rest = true;
            for (int c = 0; c < n; c++) rest &= gains[c][b] <= gains[a][b] && gains[a][c] >= gains[a][b];
            if (rest && found++ == 0) first = 100 * a + b;
          }
        }
        due("rests(1, 3)", x.rests(1, 3), found);
        due("rest(1, 3)", x.rest(1, 3), first);
      }
    }
  }

  // ---- decades

  private static void decadeOfNoneAndFiftyYears() {
    DealtSea x = of(head(2, 2, "calm") + islands("pf1", "pf1", "js1", "js1") + ";wish a b;wish c d");
    yes(x, "decade(0, 0)", 0, () -> x.decade(0, 0));
    yes(x, "decade(0, 1), a year without moves", 2, () -> x.decade(0, 1));
    yes(x, "decade(65536, 50)", 100, () -> x.decade(65536, 50));
    yes(x, "decadeWishes(0, 0)", 0, () -> x.decadeWishes(0, 0));
    yes(x, "decadeWishes(65536, 50)", 100, () -> x.decadeWishes(65536, 50));
    yes(x, "decadeOf(0, 0, 0)", 0, () -> x.decadeOf(0, 0, 0));
    yes(x, "decadeOf(0, 65536, 50)", 50, () -> x.decadeOf(0, 65536, 50));
  }

  private static void theHighestSeedComesAgain() {
    // 75 times -1 and 74 is -1: each draw is 65,536, which is 2 by seven moves: a turn each year
    DealtSea x = of(head(2, 2, "calm") + islands("pf1", "pf1", "js1", "js1", "js1") + ";family x in;wish a b");
    // turned: e d / c b, a; turned again: as told
    yes(x, "decade(65536, 1)", 0, () -> x.decade(65536, 1));
    yes(x, "decade(65536, 2)", 2, () -> x.decade(65536, 2));
    yes(x, "decade(65536, 50)", 50, () -> x.decade(65536, 50));
    yes(x, "decadeWishes(65536, 49)", 24, () -> x.decadeWishes(65536, 49));
    yes(x, "decadeOf(0, 65536, 49)", 24, () -> x.decadeOf(0, 65536, 49));
    yes(x, "decadeOf(4, 65536, 49)", 25, () -> x.decadeOf(4, 65536, 49));
    yes(x, "decadeOf(2, 65536, 49)", 49, () -> x.decadeOf(2, 65536, 49));
  }

  private static void theLeastSeedGoesOn() {
    // 0, then 74, 5,624, 28,652: by seven 4 (cut 2), 3 (cut 1), 1 (in)
    DealtSea x = of(head(2, 2, "calm") + islands("pf1", "js1", "js1", "pf1", "js1") + ";family x out");
    // cut 2: c d / e a, b; cut 1: d e / a b, c; in (upper d e, lower a b c): a d / b e, c
    int[] trades = {0, 2, 4, 6};
    for (int n = 0; n < 4; n++) { int years = n; yes(x, "decade(0, " + n + ")", trades[n], () -> x.decade(0, years)); }
    int[] c = {0, 1, 1, 1};
    for (int n = 0; n < 4; n++) { int years = n; yes(x, "decadeOf(2, 0, " + n + ")", c[n], () -> x.decadeOf(2, 0, years)); }
    DealtSea three = of(head(2, 2, "calm") + islands("pf1", "js1", "js1", "pf1", "js1") + ";family x out;family y out;family z out");
    yes(three, "decade(0, 1), all three moves in a year", 2, () -> three.decade(0, 1));
    yes(three, "decadeOf(2, 0, 1)", 0, () -> three.decadeOf(2, 0, 1));
  }

  private static void decadeRefused() {
    DealtSea x = salt(3, 2, 2);
    for (int far : new int[] {-1, 65537, Integer.MIN_VALUE, Integer.MAX_VALUE}) {
      no(x, "decade(" + far + ", 0)", 2, () -> x.decade(far, 0));
      no(x, "decadeWishes(" + far + ", 0)", 2, () -> x.decadeWishes(far, 0));
      no(x, "decadeOf(0, " + far + ", 0)", 2, () -> x.decadeOf(0, far, 0));
    }
    for (int far : new int[] {-1, 51, Integer.MIN_VALUE, Integer.MAX_VALUE}) {
      no(x, "decade(0, " + far + ")", 2, () -> x.decade(0, far));
      no(x, "decadeWishes(0, " + far + ")", 2, () -> x.decadeWishes(0, far));
      no(x, "decadeOf(0, 0, " + far + ")", 2, () -> x.decadeOf(0, 0, far));
      no(x, "decadeOf(3, 0, " + far + "), the island ahead of the number", 1, () -> x.decadeOf(3, 0, far));
    }
    for (int far : FAR) no(x, "decadeOf(" + far + ", 0, 0)", 1, () -> x.decadeOf(far, 0, 0));
    x.palm(0);
    yes(x, "decadeOf(0, 0, 50), palmed", 0, () -> x.decadeOf(0, 0, 50));
    yes(x, "decadeOf(1, 0, 50)", 50, () -> x.decadeOf(1, 0, 50));
  }

  // ---- acts

  private static void dealRefused() {
    DealtSea x = salt(3, 2, 2);
    for (int far : FAR) noAct(x, "deal(" + far + ")", -1, 1, () -> x.deal(far));
    noAct(x, "deal(5)", -1, 1, () -> x.deal(5));
    due("size(10), nothing was done", x.size(10), 0);
    yes(x, "deal(4), cut 2", 2, () -> x.deal(4));
    deckIs("cut 2", x, "2 0 1");
    due("size(10)", x.size(10), 1);
  }

  private static void palmFirstAndLast() {
    for (int p = 0; p < 4; p++) {
      int place = p;
      DealtSea x = salt(4, 2, 2);
      yes(x, "palm(" + p + ")", p, () -> x.palm(place));
      deckIs("palm(" + p + ")", x, row(3, q -> q < place ? q : q + 1));
      due("size(8)", x.size(8), 3);
      due("size(4)", x.size(4), 4);
      due("size(10)", x.size(10), 1);
    }
  }

  private static void palmRefused() {
    DealtSea x = salt(4, 2, 2);
    for (int far : FAR) noAct(x, "palm(" + far + ")", -1, 1, () -> x.palm(far));
    noAct(x, "palm(4)", -1, 1, () -> x.palm(4));
    x.palm(1);
    for (int p = 0; p < 3; p++) { int place = p; noAct(x, "palm(" + p + "), one is palmed", -1, 5, () -> x.palm(place)); }
    noAct(x, "palm(3), no place ahead of one that is palmed", -1, 1, () -> x.palm(3));
    x.lay();
    yes(x, "palm(3), laid back", 1, () -> x.palm(3));
    DealtSea two = salt(2, 2, 2);
    noAct(two, "palm(0), two cards are left", -1, 5, () -> two.palm(0));
    noAct(two, "palm(1), two cards are left", -1, 5, () -> two.palm(1));
    noAct(two, "palm(2), no place ahead of two cards", -1, 1, () -> two.palm(2));
    DealtSea three = salt(3, 2, 2);
    yes(three, "palm(2) of three", 2, () -> three.palm(2));
    noAct(three, "palm(0), two are left and one is palmed", -1, 5, () -> three.palm(0));
  }

  private static void layUnderTheDeck() {
    DealtSea x = salt(4, 2, 2);
    noAct(x, "lay(), none is palmed", 0, 6, () -> x.lay() ? 1 : 0);
    x.palm(0);
    yes(x, "lay()", 1, () -> x.lay() ? 1 : 0);
    deckIs("lay()", x, "1 2 3 0");
    noAct(x, "lay() again", 0, 6, () -> x.lay() ? 1 : 0);
    x.palm(1);
    x.deal(2);
    due("lay() behind a deal", x.lay() ? 1 : 0, 1);
    deckIs("lay() behind a deal", x, "0 3 1 2");
    due("size(10)", x.size(10), 5);
    DealtSea none = new DealtSea();
    noAct(none, "lay() without a sea", 0, 1, () -> none.lay() ? 1 : 0);
  }

  private static void undoKeepsSixteen() {
    for (int acts = 0; acts <= 40; acts++) {
      DealtSea x = salt(12, 2, 2);
      for (int k = 0; k < acts; k++) { x.deal(3); due("size(10)", x.size(10), Math.min(k + 1, 16)); }
      for (int k = 1; k <= Math.min(acts, 16); k++) {
        yes(x, "undo()", 1, () -> x.undo() ? 1 : 0);
        due("card(0)", x.card(0), (acts - k) % 12);
        due("size(10)", x.size(10), Math.min(acts, 16) - k);
      }
      noAct(x, "undo() of no more", 0, 6, () -> x.undo() ? 1 : 0);
    }
    DealtSea none = new DealtSea();
    noAct(none, "undo() without a sea", 0, 6, () -> none.undo() ? 1 : 0);
  }

  private static void undoOfEachAct() {
    DealtSea x = salt(4, 2, 2);
    x.palm(2);
    x.deal(3);
    x.lay();
    deckIs("palm, cut 1, lay", x, "1 3 0 2");
    x.undo();
    deckIs("undo of lay", x, "1 3 0");
    due("palmed again", x.island(2, 4), -2);
    x.undo();
    deckIs("undo of deal", x, "0 1 3");
    x.undo();
    deckIs("undo of palm", x, "0 1 2 3");
    noAct(x, "lay(), none is palmed", 0, 6, () -> x.lay() ? 1 : 0);
    noAct(x, "undo()", 0, 6, () -> x.undo() ? 1 : 0);
    x.deal(2);
    x.undo();
    x.deal(3);
    x.undo();
    deckIs("undone again", x, "0 1 2 3");
  }

  private static void refusedActsAreNoActs() {
    DealtSea x = salt(3, 2, 2);
    x.deal(2);
    x.deal(99);
    x.palm(99);
    x.lay();
    x.back(0);
    due("size(10)", x.size(10), 1);
    x.palm(0);
    x.palm(0);
    due("size(10)", x.size(10), 2);
    x.image();
    due("size(10), an image is no act", x.size(10), 2);
  }

  private static void imagesUpToThree() {
    DealtSea none = new DealtSea();
    noAct(none, "image() without a sea", -1, 1, none::image);
    DealtSea x = salt(5, 2, 2);
    for (int k = 0; k < 3; k++) { yes(x, "image()", k, x::image); x.deal(3); due("size(11)", x.size(11), k + 1); }
    noAct(x, "image(), no room", -1, 3, x::image);
    x.back(0);
    noAct(x, "image() behind back(), no room", -1, 3, x::image);
    x.undo();
    noAct(x, "image() behind undo(), no room", -1, 3, x::image);
  }

  private static void backToEachImage() {
    DealtSea x = salt(5, 2, 2);
    x.image();
    x.palm(4);
    x.image();
    x.deal(2);
    x.image();
    String[] want = {"0 1 2 3 4", "0 1 2 3", "3 2 1 0"};
    for (int k : new int[] {2, 0, 1, 1, 0, 2}) {
      x.deal(1);
      yes(x, "back(" + k + ")", 1, () -> x.back(k) ? 1 : 0);
      deckIs("back(" + k + ")", x, want[k]);
      due("the palmed one", x.island(4, 4), k == 0 ? 4 : -2);
      due("size(10), nothing can be undone", x.size(10), 0);
      due("size(11), all stay", x.size(11), 3);
      noAct(x, "undo()", 0, 6, () -> x.undo() ? 1 : 0);
    }
    x.lay();
    deckIs("laid behind back", x, "3 2 1 0 4");
    due("size(10)", x.size(10), 1);
    x.undo();
    due("palmed again", x.island(4, 4), -2);
  }

  private static void backRefused() {
    DealtSea none = new DealtSea();
    noAct(none, "back(0) without a sea", 0, 1, () -> none.back(0) ? 1 : 0);
    DealtSea x = salt(5, 2, 2);
    noAct(x, "back(0) without images", 0, 1, () -> x.back(0) ? 1 : 0);
    for (int k = 1; k <= 3; k++) {
      x.image();
      x.deal(3);
      int beyond = k;
      noAct(x, "back(" + k + ") of " + k, 0, 1, () -> x.back(beyond) ? 1 : 0);
      for (int far : FAR) no(x, "back(" + far + ")", 0, 1, () -> x.back(far) ? 1 : 0);
    }
    due("size(10), acts stay", x.size(10), 3);
  }

  // ---- what is told

  private static void ledFirstLastAndNone() {
    due("led(0) without a sea", ledOr(new DealtSea(), 0), -7);
    due("led(0) without discards", ledOr(salt(4, 2, 2), 0), -7);
    DealtSea x = salt(7, 2, 2);
    for (int far : FAR) due("led(" + far + ")", ledOr(x, far), -7);
    x.deal(2);
    int[] want = {0, 1, 2, -7};
    for (int i = 0; i < 4; i++) due("led(" + i + "), by numbers", ledOr(x, i), want[i]);
    x.palm(5);
    int[] left = {0, 2, -7};
    for (int i = 0; i < 3; i++) due("led(" + i + "), the palmed one isn't among them", ledOr(x, i), left[i]);
    x.lay();
    x.palm(0);
    int[] moved = {0, 1, -7};
    for (int i = 0; i < 3; i++) due("led(" + i + "), one came into the sea", ledOr(x, i), moved[i]);
  }

  private static void ledTellsNoTrouble() {
    DealtSea x = salt(5, 2, 2);
    x.card(0);
    ledOr(x, 9);
    due("trouble()", x.trouble(), 0);
    x.sea(-1);
    ledOr(x, 0);
    ledOr(x, -1);
    due("trouble()", x.trouble(), 2);
  }

  private static void sizesOfOthers() {
    DealtSea x = salt(5, 2, 2);
    for (DealtSea y : new DealtSea[] {x, new DealtSea()}) {
      for (int far : FAR) due("size(" + far + ")", y.size(far), -1);
      due("size(13)", y.size(13), -1);
    }
    for (int what = 0; what <= 12; what++) due("size(" + what + ") without a sea", new DealtSea().size(what), 0);
    x.sea(-1);
    x.size(13);
    x.size(0);
    due("trouble() behind size()", x.trouble(), 2);
  }

  private static void sizesAreFull() {
    StringBuilder text = new StringBuilder("sea wide 4 high 3 trumps salt tide" + alike(12, "jw9 0"));
    for (int k = 0; k < 10; k++) text.append(";family x").append((char) ('a' + k)).append(" in");
    for (int k = 1; k <= 6; k++) text.append(";wish a ").append((char) ('a' + k)).append(";shows 0 a");
    DealtSea x = of(text.toString());
    for (int k = 0; k < 20; k++) x.deal(2);
    for (int k = 0; k < 4; k++) x.image();
    for (int k = 0; k < 46; k++) x.feed(0, 0, 0, 0, 0);
    int[] want = {4, 3, 3, 1, 12, 10, 6, 6, 12, 14, 16, 3, 900};
    for (int what = 0; what < want.length; what++) due("size(" + what + ")", x.size(what), want[what]);
  }

  // ---- no sea

  private static void allCallsWithoutASea() {
    DealtSea x = new DealtSea();
    List<String> names = new ArrayList<>();
    List<Call> calls = new ArrayList<>();
    add(names, calls, "island", () -> x.island(0, 0)); add(names, calls, "card", () -> x.card(0)); add(names, calls, "beside", () -> x.beside(0));
    add(names, calls, "trade", () -> x.trade(0, 1)); add(names, calls, "trades", x::trades); add(names, calls, "wars", x::wars);
    add(names, calls, "run", x::run); add(names, calls, "runAt", () -> x.runAt(0)); add(names, calls, "journey", () -> x.journey(0, 0));
    add(names, calls, "wishes", x::wishes); add(names, calls, "crowd", x::crowd); add(names, calls, "nearest", () -> x.nearest(0, 0));
    add(names, calls, "people", () -> x.people(0)); add(names, calls, "planned", () -> x.planned(0, 0)); add(names, calls, "planned", () -> x.planned(0, 9));
    add(names, calls, "plannedTrades", () -> x.plannedTrades(0)); add(names, calls, "plannedTrades", () -> x.plannedTrades(9)); add(names, calls, "judge", x::judge);
    add(names, calls, "fits", () -> x.fits(0)); add(names, calls, "fits", () -> x.fits(9)); add(names, calls, "fitAt", () -> x.fitAt(1, 0)); add(names, calls, "fitAt", () -> x.fitAt(9, 9));
    add(names, calls, "again", x::again); add(names, calls, "cycle", () -> x.cycle(0)); add(names, calls, "can", () -> x.can(0, 0)); add(names, calls, "can", () -> x.can(0, 99));
    add(names, calls, "odds", () -> x.odds(0, 0, 0, true)); add(names, calls, "odds", () -> x.odds(0, 99, 0, false)); add(names, calls, "inSea", () -> x.inSea(0, 0, true)); add(names, calls, "inSea", () -> x.inSea(0, 99, false));
    add(names, calls, "alike", () -> x.alike(0, 0)); add(names, calls, "alike", () -> x.alike(0, 999)); add(names, calls, "fewest", () -> x.fewest(0, 0)); add(names, calls, "moveAt", () -> x.moveAt(0, 0, 0));
    add(names, calls, "together", () -> x.together(0, 1)); add(names, calls, "togetherAt", () -> x.togetherAt(0, 1, 0)); add(names, calls, "three", () -> x.three(0, 1, 2));
    add(names, calls, "best", x::best); add(names, calls, "bestTrades", x::bestTrades); add(names, calls, "bestTwo", x::bestTwo); add(names, calls, "exchange", x::exchange);
    add(names, calls, "rests", () -> x.rests(0, 1)); add(names, calls, "rest", () -> x.rest(0, 1)); add(names, calls, "decade", () -> x.decade(0, 0)); add(names, calls, "decade", () -> x.decade(-1, -1));
    add(names, calls, "decadeWishes", () -> x.decadeWishes(0, 0)); add(names, calls, "decadeWishes", () -> x.decadeWishes(-1, -1)); add(names, calls, "decadeOf", () -> x.decadeOf(0, 0, 0)); add(names, calls, "decadeOf", () -> x.decadeOf(0, -1, -1));
    add(names, calls, "deal", () -> x.deal(0)); add(names, calls, "palm", () -> x.palm(0)); add(names, calls, "image", x::image);
    for (int k = 0; k < calls.size(); k++) no(x, names.get(k) + " without a sea", 1, calls.get(k));
    no(x, "gain without a sea", -1000, 1, () -> x.gain(0, 0, 0, 0));
  }

  private static void add(List<String> names, List<Call> calls, String name, Call call) { names.add(name); calls.add(call); }

  private static void troubleOfANewObject() {
    DealtSea x = new DealtSea();
    due("trouble()", x.trouble(), 0);
    x.feed(1, 2, 3, 4, 5);
    x.size(99);
    x.fault();
    x.where();
    ledOr(x, 0);
    due("trouble() behind calls that tell none", x.trouble(), 0);
    x.sea(21);
    due("trouble()", x.trouble(), 2);
    due("trouble() again", x.trouble(), 2);
  }

  public static void main(String[] args) throws IllegalAccessException, InvocationTargetException {
    int edges = 0;
    for (Method m : CallEdgesTest.class.getDeclaredMethods()) {
      if (m.getParameterCount() > 0 || m.getReturnType() != void.class || !Modifier.isStatic(m.getModifiers()) || m.isSynthetic()) continue;
      edge = m.getName();
      m.invoke(null);
      edges++;
    }
    System.out.println(wrong == 0 ? edges + " edges of the calls: all answers are as due" : wrong + " answers are not as due");
    if (wrong != 0 || edges < 60) System.exit(1);
  }
}
