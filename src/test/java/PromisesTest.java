import java.util.NoSuchElementException;

/** Each promise of the document by answers that were worked out by hand, but where a comment says otherwise. */
public final class PromisesTest {
  private static int wrong = 0;
  private static int promise = 0;

  private static void due(String call, long got, long want) {
    if (got != want) { wrong++; System.out.println("promise " + promise + ": " + call + " answered " + got + ", due is " + want); }
  }
  private static void due(String call, boolean got, boolean want) { due(call, got ? 1 : 0, want ? 1 : 0); }

  /** A call that must be refused: its answer, then the trouble. */
  private static void refused(DealtSea x, String call, long got, long want, int trouble) {
    due(call, got, want);
    due(call + ", its trouble", x.trouble(), trouble);
  }

  private static int tell(DealtSea x, String text) {
    feedText(x, text);
    return x.sea(text.length());
  }

  private static void feedText(DealtSea x, String text) {
    String t = text + " ".repeat((20 - text.length() % 20) % 20);
    for (int p = 0; p < t.length(); p += 20) {
      int[] a = new int[5];
      for (int c = 0; c < 20; c++) a[c / 4] = a[c / 4] << 8 | t.charAt(p + c) & 255;
      x.feed(a[0], a[1], a[2], a[3], a[4]);
    }
  }

  private static DealtSea of(String text) {
    DealtSea x = new DealtSea();
    due("sea of " + text, tell(x, text) >= 2, true);
    due("trouble of " + text, x.trouble(), 0);
    return x;
  }

  /** The number of the island that led() tells, -7 if it throws. */
  private static int ledOr(DealtSea x, int i) {
    try { return x.led(i); } catch (NoSuchElementException e) { return -7; }
  }

  // a 3 by 2 sea with one discard
  private static final String SEVEN = "sea wide 3 high 2 trumps wool calm;island ann plain wool rank 1 people 10;island bob marked wool rank 2 people 20;island cy plain fish rank 3 people 5;island dee joker salt rank 9 people 1;island eve plain fish rank 4 people 7;island fay plain sheep rank 8 people 50;island gus marked fish rank 5 people 3;family x cut 2;family y out;wish ann bob;wish fay gus;shows 0 cy;shows 5 ann";
  // a 3 by 3 sea at a tide: only the cross of places 1, 3, 4, 5, 7 hangs together; place 9 is a discard
  private static final String CROSS = "sea wide 3 high 3 trumps fish tide;island a plain sheep rank 1 people 90;island b marked fish rank 2 people 10;island c plain sheep rank 9 people 9;island d plain fish rank 2 people 5;island e plain fish rank 3 people 1;island f joker fish rank 4 people 60;island g plain sheep rank 3 people 1;island h plain wool rank 8 people 40;island i plain wool rank 3 people 2;island j plain fish rank 4 people 3;wish b e;wish a b;wish e f";
  // a 2 by 2 sea; goods lie across from each other
  private static final String ACROSS = "sea wide 2 high 2 trumps wool calm;island a plain wool rank 1 people 1;island b plain salt rank 2 people 2;island c plain salt rank 3 people 3;island d plain wool rank 4 people 4";
  private static final String FIVE = "sea wide 2 high 2 trumps fish calm;island a plain fish rank 1 people 1;island b plain fish rank 3 people 1;island c plain wool rank 5 people 1;island d plain wool rank 7 people 1;island e plain salt rank 9 people 1;family f out;wish a b;wish c d";
  private static final String THREE = "sea wide 2 high 2 trumps fish calm;island a plain fish rank 1 people 1;island b plain fish rank 3 people 1;island c plain wool rank 5 people 1;shows 0 c";
  private static final String TWO = "sea wide 2 high 2 trumps fish calm;island a plain fish rank 1 people 0;island b plain fish rank 6 people 99";
  private static final String HEAD = "sea wide 2 high 2 trumps fish calm";
  private static final String PAIR = ";island a plain fish rank 1 people 1;island b joker salt rank 9 people 99";

  private static void newObject() {
    promise = 1;
    DealtSea x = new DealtSea();
    for (int what = 0; what <= 12; what++) due("size(" + what + ")", x.size(what), 0);
    due("trouble()", x.trouble(), 0);
    due("fault()", x.fault(), 0);
    due("where()", x.where(), -1);
  }

  private static void feed() {
    promise = 2;
    DealtSea x = new DealtSea();
    for (int f = 1; f <= 45; f++) due("feed", x.feed(1, 2, 3, 4, 5), 20 * f);
    refusedFeed(x);
    x = new DealtSea();
    due("feed of bytes above 127", x.feed(-1, -1, -1, -1, -1), 20);
    refused(x, "sea(20)", x.sea(20), -1, 4);
    due("where()", x.where(), 0);
    due("fault()", x.fault(), 1);
    // 's' 'e' 'a' ' ' by numbers, the highest byte first; the fault is behind them
    x.feed(0x73656120, 0x41000000, 0, 0, 0);
    x.sea(20);
    due("where()", x.where(), 4);
  }

  private static void refusedFeed(DealtSea x) {
    refused(x, "sea(901)", x.sea(901), -1, 2);
    due("feed beyond 900", x.feed(0, 0, 0, 0, 0), -1);
    due("size(12)", x.size(12), 900);
    due("trouble() that feed leaves alone", x.trouble(), 2);
    x.sea(900);
    due("feed behind sea", x.feed(0, 0, 0, 0, 0), 20);
    due("trouble() that feed leaves alone", x.trouble(), 4);
  }

  private static void sea() {
    promise = 3;
    DealtSea x = new DealtSea();
    refused(x, "sea(1) of nothing", x.sea(1), -1, 2);
    refused(x, "sea(0) of nothing", x.sea(0), -1, 4);
    feedText(x, SEVEN);
    int fed = x.size(12);
    refused(x, "sea(-1)", x.sea(-1), -1, 2);
    refused(x, "sea of more than there are", x.sea(fed + 1), -1, 2);
    due("size(12)", x.size(12), fed);
    due("sea(n)", x.sea(SEVEN.length()), 7);
    due("trouble()", x.trouble(), 0);
    due("size(12)", x.size(12), 0);
    x.deal(2);
    x.palm(0);
    x.image();
    refused(x, "sea(0)", x.sea(0), -1, 4);
    due("the deck stays", x.size(8), 6);
    due("the acts stay", x.size(10), 2);
    due("the images stay", x.size(11), 1);
    due("the palmed one stays", x.island(6, 4), -2);
    due("another sea", tell(x, TWO), 2);
    due("its deck", x.size(8), 2);
    due("its acts", x.size(10), 0);
    due("its images", x.size(11), 0);
    due("its first card", x.card(0), 0);
    due("its plan", x.size(5), 0);
    due("its wishes", x.size(6), 0);
    due("its shows", x.size(7), 0);
    due("back(0)", x.back(0), false);
    due("lay()", x.lay(), false);
    feedText(x, TWO + ";family f turn");
    due("a text that is cut off ahead", x.sea(TWO.length()), 2);
    due("its plan", x.size(5), 0);
    due("the whole tape is empty", x.size(12), 0);
  }

  private static void faultAt(String text, int fault, int place) {
    DealtSea x = new DealtSea();
    refused(x, "sea of " + text, tell(x, text), -1, 4);
    due("fault() of " + text, x.fault(), fault);
    due("where() of " + text, x.where(), place);
    due("no sea by " + text, x.size(4), 0);
  }

  /** The fault is at the last token of the text. */
  private static void faultAtLast(String ahead, String last, int fault) {
    faultAt(ahead + last, fault, ahead.length());
    faultAt(ahead + "  " + last + " ", fault, ahead.length() + 2);
  }

  private static String times(int n, String line) {
    StringBuilder t = new StringBuilder();
    for (int k = 0; k < n; k++) t.append(line.replace("#", "" + (char) ('a' + k)));
    return t.toString();
  }

  private static void faultsOfForm() {
    promise = 4;
    faultAt("", 1, 0);
    faultAt("   ", 1, 3);
    faultAt("sea", 1, 3);
    faultAt("sea ", 1, 4);
    faultAtLast("", ";", 1);
    faultAtLast("", "ocean", 1);
    faultAtLast("", "7", 1);
    faultAtLast("sea ", "Wide", 1);
    faultAtLast("sea ", "high", 1);
    faultAtLast("sea wide ", "two", 1);
    faultAtLast("sea wide ", "002", 1);
    faultAtLast("sea wide 2 high 2 trumps ", "2", 1);
    faultAtLast("sea wide 2 high 2 trumps ", "wheat", 1);
    faultAtLast("sea wide 2 high 2 trumps fish ", "fish", 1);
    faultAtLast(HEAD + " ", "island", 1);
    faultAtLast(HEAD + ";", ";", 1);
    faultAt(HEAD + PAIR + ";", 1, (HEAD + PAIR).length() + 1);
    faultAt(HEAD + PAIR + "; ", 1, (HEAD + PAIR).length() + 2);
    faultAtLast(HEAD + ";", "isle", 1);
    faultAtLast(HEAD + ";island ", "sea", 1);
    faultAtLast(HEAD + ";island ", "shows", 1);
    faultAtLast(HEAD + ";island ", "ninelette", 1);
    faultAtLast(HEAD + ";island ", "4", 1);
    faultAtLast(HEAD + ";island a plain fish rank ", "one", 1);
    faultAtLast(HEAD + ";island a plain fish rank 1 people ", "100", 1);
    faultAtLast(HEAD + PAIR + ";family ", "family", 1);
    faultAtLast(HEAD + PAIR + ";family f ", "shuffle", 1);
    faultAtLast(HEAD + PAIR + ";family f cut ", "out", 1);
    faultAtLast(HEAD + PAIR + ";family f out ", "3", 1);
    faultAtLast(HEAD + PAIR + ";wish ", "wish", 1);
    faultAtLast(HEAD + PAIR + ";wish a ", "island", 1);
    faultAtLast(HEAD + PAIR + ";shows ", "a", 1);
    faultAtLast(HEAD + PAIR + ";shows 0 ", "0", 1);
    faultAt(HEAD + PAIR + ";shows 0", 1, (HEAD + PAIR + ";shows 0").length());
    faultAt(HEAD + PAIR + "\n", 1, (HEAD + PAIR).length());
  }

  private static void otherFaults() {
    promise = 4;
    faultAtLast(HEAD + PAIR + ";wish ", "c", 2);
    faultAtLast(HEAD + PAIR + ";wish a ", "c", 2);
    faultAtLast(HEAD + PAIR + ";family f out;wish a ", "f", 2);
    faultAtLast(HEAD + PAIR + ";family f out;shows 3 ", "f", 2);
    faultAtLast(HEAD + PAIR + ";shows 0 ", "z", 2);
    faultAtLast(HEAD + PAIR + ";island ", "b", 3);
    faultAtLast(HEAD + PAIR + ";family ", "a", 3);
    faultAtLast(HEAD + PAIR + ";family f in;family ", "f", 3);
    faultAtLast(HEAD + PAIR + ";family f in;island ", "f", 3);
    faultAtLast(HEAD + PAIR + ";wish b ", "b", 3);
    faultAtLast(HEAD + PAIR + ";wish a b;wish a ", "b", 3);
    faultAtLast(HEAD + PAIR + ";wish a b;wish b ", "a", 3);
    faultAtLast(HEAD + ";", "sea", 3);
    faultAtLast(HEAD + PAIR + ";", "sea", 3);
    faultAtLast("sea wide ", "1", 4);
    faultAtLast("sea wide ", "5", 4);
    faultAtLast("sea wide 4 high ", "1", 4);
    faultAtLast("sea wide 4 high ", "4", 4);
    faultAtLast(HEAD + ";island a plain fish rank ", "0", 4);
    faultAtLast(HEAD + ";island a plain fish rank ", "10", 4);
    faultAtLast(HEAD + PAIR + ";family f cut ", "0", 4);
    faultAtLast(HEAD + PAIR + ";family f cut ", "12", 4);
    faultAtLast(HEAD + PAIR + ";shows ", "4", 4);
    faultAtLast("sea wide 4 high 3 trumps salt tide" + PAIR + ";shows ", "12", 4);
    faultAtLast(HEAD + times(12, ";island # joker wool rank 9 people 0") + ";", "island", 5);
    faultAtLast(HEAD + PAIR + times(10, ";family f# out") + ";", "family", 5);
    faultAtLast(HEAD + PAIR + times(6, ";shows 1 a") + ";", "shows", 5);
    String six = ";wish a b;wish a c;wish a d;wish b c;wish b d;wish d c";
    faultAtLast(HEAD + times(4, ";island # joker wool rank 9 people 0") + six + ";", "wish", 5);
    faultAtLast("", "island", 6);
    faultAtLast("", "family", 6);
    faultAtLast("", "wish", 6);
    faultAtLast("", "shows", 6);
    faultAt(HEAD, 6, HEAD.length());
    faultAt(HEAD + " ", 6, HEAD.length() + 1);
    String one = HEAD + ";family f out;island a plain fish rank 1 people 1";
    faultAt(one, 6, one.length());
    // the first from the left, whatever comes behind
    faultAt(HEAD + ";island a plain fish rank 0 people 100;sea", 4, HEAD.length() + 26);
    faultAt(HEAD + ";shows 9 zzz", 4, HEAD.length() + 7);
  }

  private static void latestFault() {
    promise = 4;
    DealtSea x = new DealtSea();
    tell(x, HEAD);
    due("fault()", x.fault(), 6);
    x.sea(1);
    due("fault() behind a sea() refused by 2", x.fault(), 6);
    tell(x, TWO);
    due("fault() behind a sea without one", x.fault(), 0);
    x.sea(1);
    due("fault() behind a sea() refused by 2", x.fault(), 0);
  }

  private static void soundTexts() {
    promise = 3;
    due("tokens without blanks", of("sea wide2high2trumps fish calm;island a plain fish rank1people0;island b plain fish rank 09people 00;shows 3a").island(1, 2), 9);
    due("words as names", of(HEAD + ";island plain plain salt rank 1 people 1;island rank joker salt rank 1 people 1;family out out;wish plain rank").size(6), 1);
    due("names of eight letters", of(HEAD + ";island eightlet plain salt rank 1 people 1;island eightlem joker salt rank 1 people 1").size(4), 2);
    due("a family ahead of the islands", of(HEAD + ";family f cut 11" + PAIR).size(5), 1);
    due("twelve islands", of("sea wide 4 high 3 trumps fish calm" + times(12, ";island # joker wool rank 9 people 0") + times(10, ";family f# out") + ";shows 11 l").size(4), 12);
    due("the same shows again", of(HEAD + PAIR + times(6, ";shows 1 a")).size(7), 6);
  }

  private static void where() {
    promise = 5;
    DealtSea x = new DealtSea();
    tell(x, HEAD);
    due("where()", x.where(), HEAD.length());
    x.feed(0, 0, 0, 0, 0);
    x.size(0);
    x.fault();
    ledOr(x, 0);
    due("where() behind calls that can't be refused by a number", x.where(), HEAD.length());
    x.trades();
    due("where() behind another refusal", x.where(), -1);
    x.sea(0);
    tell(x, TWO);
    due("where() behind a sound sea", x.where(), -1);
    tell(x, "sea");
    due("where()", x.where(), 3);
    x.trades();
    due("where() behind a call that wasn't refused", x.where(), -1);
    due("fault()", x.fault(), 1);
  }

  private static void islandsAndCards() {
    promise = 6;
    DealtSea x = of(SEVEN);
    int[][] want = {{0, 2, 1, 10, 0}, {1, 2, 2, 20, 1}, {0, 1, 3, 5, 2}, {2, 3, 9, 1, 3}, {0, 1, 4, 7, 4}, {0, 0, 8, 50, 5}, {1, 1, 5, 3, 6}};
    for (int i = 0; i < 7; i++) for (int w = 0; w < 5; w++) due("island(" + i + ", " + w + ")", x.island(i, w), want[i][w]);
    refused(x, "island(7, 0)", x.island(7, 0), -1, 1);
    refused(x, "island(-1, 0)", x.island(-1, 0), -1, 1);
    refused(x, "island(0, 5)", x.island(0, 5), -1, 1);
    refused(x, "island(0, -1)", x.island(0, -1), -1, 1);
    x.palm(2);
    due("island(2, 4) palmed", x.island(2, 4), -2);
    due("trouble()", x.trouble(), 0);
    due("island(2, 3) palmed", x.island(2, 3), 5);
    due("island(6, 4)", x.island(6, 4), 5);
    promise = 7;
    due("card(2)", x.card(2), 3);
    due("card(5)", x.card(5), 6);
    refused(x, "card(6)", x.card(6), -1, 1);
    refused(x, "card(-1)", x.card(-1), -1, 1);
    x = new DealtSea();
    refused(x, "card(0) of no sea", x.card(0), -1, 1);
  }

  private static void besideAndTrades() {
    promise = 8;
    DealtSea x = of(CROSS);
    int[] want = {0, 16, 0, 16, 170, 16, 0, 16, 0, 0};
    for (int i = 0; i < 10; i++) due("beside(" + i + ")", x.beside(i), want[i]);
    due("trouble()", x.trouble(), 0);
    refused(x, "beside(10)", x.beside(10), -1, 1);
    refused(x, "beside(-1)", x.beside(-1), -1, 1);
    promise = 9;
    due("trade(1, 4): trumps, one marked", x.trade(1, 4), 3);
    due("trade(4, 3): trumps", x.trade(4, 3), 2);
    due("trade(4, 5): a joker", x.trade(4, 5), 0);
    due("trade(4, 7): goods unlike", x.trade(4, 7), 0);
    due("trade(0, 6): not beside", x.trade(0, 6), 0);
    due("trade(4, 9): a discard", x.trade(4, 9), 0);
    refused(x, "trade(4, 4)", x.trade(4, 4), -1, 1);
    refused(x, "trade(4, 10)", x.trade(4, 10), -1, 1);
    refused(x, "trade(-1, 4)", x.trade(-1, 4), -1, 1);
    promise = 10;
    due("trades()", x.trades(), 5);
    DealtSea none = new DealtSea();
    refused(none, "trades()", none.trades(), -1, 1);
    promise = 11;
    due("wars()", x.wars(), 1);
    x = of(TWO);
    due("wars(), ranks 5 apart", x.wars(), 1);
    due("wars(), a joker", of(HEAD + PAIR).wars(), 0);
    due("trades(), two of trumps", x.trades(), 2);
    x = of(HEAD + ";island a marked wool rank 1 people 1;island b marked wool rank 5 people 1");
    due("trades(), both marked", x.trades(), 2);
    due("wars(), ranks 4 apart", x.wars(), 0);
    x = of(SEVEN);
    x.palm(1);
    due("beside(1) palmed", x.beside(1), 0);
    due("trade(0, 1) palmed", x.trade(0, 1), 0);
    due("trouble()", x.trouble(), 0);
  }

  private static void runs() {
    promise = 12;
    DealtSea x = of(CROSS);
    due("run()", x.run(), 2);
    promise = 13;
    due("runAt(0)", x.runAt(0), 1);
    due("runAt(1)", x.runAt(1), 4);
    refused(x, "runAt(2)", x.runAt(2), -1, 1);
    refused(x, "runAt(-1)", x.runAt(-1), -1, 1);
    DealtSea none = new DealtSea();
    refused(none, "runAt(0) of no sea", none.runAt(0), -1, 1);
    promise = 12;
    x = of(HEAD + ";island a joker fish rank 1 people 1;island b joker fish rank 2 people 1");
    due("run() of jokers", x.run(), 0);
    refused(x, "runAt(0) of jokers", x.runAt(0), -1, 1);
    // 1 2 3 / 4 3 4: from 1 over the upper 3, which is number 2, or the lower one, which is number 4
    String line = "sea wide 3 high 2 trumps fish calm;island a plain fish rank 1 people 1;island b plain fish rank 2 people 1;island c plain fish rank # people 1;island d plain fish rank 4 people 1;island e plain fish rank 3 people 1;island f plain fish rank 4 people 1";
    x = of(line.replace("#", "3"));
    due("run()", x.run(), 4);
    due("runAt(2)", x.runAt(2), 2);
    due("runAt(3)", x.runAt(3), 5);
    x = of(line.replace("#", "9"));
    due("runAt(2)", x.runAt(2), 4);
    due("runAt(3), the first by numbers", x.runAt(3), 3);
    due("run() without rising ranks", of(ACROSS.replace("rank 2", "rank 9").replace("rank 3", "rank 6")).run(), 1);
  }

  private static void journeys() {
    promise = 14;
    DealtSea x = of(CROSS);
    due("journey(1, 3)", x.journey(1, 3), 2);
    due("journey(5, 7), a joker first", x.journey(5, 7), 2);
    due("journey(7, 5), a joker last", x.journey(7, 5), 2);
    due("journey(0, 1), a corner at a tide", x.journey(0, 1), -2);
    due("journey(0, 0)", x.journey(0, 0), 0);
    due("journey(9, 9), a discard", x.journey(9, 9), -2);
    due("journey(4, 9)", x.journey(4, 9), -2);
    due("trouble()", x.trouble(), 0);
    refused(x, "journey(0, 10)", x.journey(0, 10), -1, 1);
    refused(x, "journey(-1, 0)", x.journey(-1, 0), -1, 1);
    DealtSea y = of(ACROSS.replace("b plain", "b joker").replace("c plain", "c joker"));
    due("journey(0, 3) behind jokers", y.journey(0, 3), -2);
    due("journey(0, 1)", y.journey(0, 1), 1);
    due("journey(1, 2), from joker to joker", y.journey(1, 2), 2);
    promise = 17;
    due("nearest(0, 2) behind jokers", y.nearest(0, 2), -2);
    due("nearest(0, 3), a joker", y.nearest(0, 3), 1);
    due("nearest(1, 3), another joker", y.nearest(1, 3), 2);
    due("nearest(1, 1)", x.nearest(1, 1), 1);
    due("nearest(7, 2), only itself and a corner", x.nearest(7, 2), -2);
    due("nearest(5, 2)", x.nearest(5, 2), 2);
    due("nearest(9, 1), a discard", x.nearest(9, 1), -2);
    refused(x, "nearest(0, 4)", x.nearest(0, 4), -1, 1);
    refused(x, "nearest(0, -1)", x.nearest(0, -1), -1, 1);
    refused(x, "nearest(10, 0)", x.nearest(10, 0), -1, 1);
    x.palm(4);
    promise = 14;
    due("journey(4, 4) palmed", x.journey(4, 4), -2);
    promise = 17;
    due("nearest(4, 1) palmed", x.nearest(4, 1), -2);
    due("trouble()", x.trouble(), 0);
  }

  private static void wishesAndPeople() {
    promise = 15;
    DealtSea x = of(CROSS);
    due("wishes(), one with a joker, one of a corner", x.wishes(), 2);
    due("wishes()", of(SEVEN).wishes(), 1);
    promise = 16;
    due("crowd(), a corner alone", x.crowd(), 90);
    due("crowd(), the cross without the joker", of(CROSS.replace("people 90", "people 55")).crowd(), 56);
    due("crowd()", of(SEVEN).crowd(), 92);
    due("crowd() of jokers", of(HEAD + ";island a joker fish rank 1 people 1;island b joker fish rank 2 people 1").crowd(), 0);
    promise = 18;
    due("people(0)", x.people(0), 100);
    due("people(1), a joker too, no discard", x.people(1), 76);
    due("people(2)", x.people(2), 42);
    due("people(3)", x.people(3), 0);
    refused(x, "people(4)", x.people(4), -1, 1);
    refused(x, "people(-1)", x.people(-1), -1, 1);
    x.palm(0);
    due("people(0) behind a palm", x.people(0), 10);
    due("people(1), the discard came in", x.people(1), 79);
  }

  private static void plan() {
    promise = 19;
    DealtSea x = of(SEVEN);
    int[][] want = {{0, 1, 2, 3, 4, 5, 6}, {2, 3, 4, 5, 6, 0, 1}, {2, 6, 3, 0, 4, 1, 5}};
    x.deal(2);
    x.palm(0);
    for (int k = 0; k < 3; k++) for (int p = 0; p < 7; p++) due("planned(" + p + ", " + k + ")", x.planned(p, k), want[k][p]);
    refused(x, "planned(0, 3)", x.planned(0, 3), -1, 2);
    refused(x, "planned(0, -1)", x.planned(0, -1), -1, 2);
    refused(x, "planned(7, 3)", x.planned(7, 3), -1, 1);
    refused(x, "planned(-1, 0)", x.planned(-1, 0), -1, 1);
    DealtSea none = new DealtSea();
    refused(none, "planned(0, 0) of no sea", none.planned(0, 0), -1, 1);
    promise = 20;
    due("plannedTrades(0)", x.plannedTrades(0), 3);
    due("plannedTrades(1)", x.plannedTrades(1), 0);
    due("plannedTrades(2)", x.plannedTrades(2), 4);
    refused(x, "plannedTrades(3)", x.plannedTrades(3), -1, 2);
    refused(x, "plannedTrades(-1)", x.plannedTrades(-1), -1, 2);
    promise = 21;
    due("judge()", x.judge(), 1);
    due("judge(), all are so", of(SEVEN.replace("shows 5 ann", "shows 5 bob")).judge(), -2);
    due("judge(), the first isn't so", of(SEVEN.replace("shows 0 cy", "shows 0 bob")).judge(), 0);
    due("judge() without shows", of(TWO).judge(), -2);
    due("judge(), a place without a card", of(TWO + ";shows 3 b").judge(), 0);
    promise = 19;
    x = of(TWO + ";family f cut 11;family g cut 2");
    due("cut 11 of two cards", x.planned(0, 1), 1);
    due("cut 2 of two cards", x.planned(0, 2), 1);
    x = of(FIVE.replace("f out", "f in"));
    int[] in = {2, 0, 3, 1, 4};
    for (int p = 0; p < 5; p++) due("in of five", x.planned(p, 1), in[p]);
    x = of(FIVE);
    int[] out = {0, 3, 1, 4, 2};
    for (int p = 0; p < 5; p++) due("out of five", x.planned(p, 1), out[p]);
    x = of(ACROSS + ";family f in;family g out;family h turn");
    due("in of four", 1000 * x.planned(0, 1) + 100 * x.planned(1, 1) + 10 * x.planned(2, 1) + x.planned(3, 1), 2031);
    due("out of that", 1000 * x.planned(0, 2) + 100 * x.planned(1, 2) + 10 * x.planned(2, 2) + x.planned(3, 2), 2301);
    due("turn of that", 1000 * x.planned(0, 3) + 100 * x.planned(1, 3) + 10 * x.planned(2, 3) + x.planned(3, 3), 1032);
  }

  private static void fits() {
    promise = 22;
    DealtSea x = of(THREE);
    x.palm(0);
    int[] want = {0, 2, 8, 42};
    for (int k = 0; k < 4; k++) due("fits(" + k + ")", x.fits(k), want[k]);
    refused(x, "fits(4)", x.fits(4), -1, 2);
    refused(x, "fits(-1)", x.fits(-1), -1, 2);
    due("fits(0), all are so", of(THREE + ";family f turn").fits(0), 1);
    due("fits(3) of two shows that can't be", of(THREE + ";shows 0 b").fits(3), 0);
    promise = 23;
    due("fitAt(1, 0)", x.fitAt(1, 0), 2);
    due("fitAt(2, 0)", x.fitAt(2, 0), 0);
    due("fitAt(2, 1)", x.fitAt(2, 1), 1);
    due("fitAt(3, 0)", x.fitAt(3, 0), 0);
    due("fitAt(3, 1)", x.fitAt(3, 1), 0);
    due("fitAt(3, 2)", x.fitAt(3, 2), 2);
    refused(x, "fitAt(4, 9)", x.fitAt(4, 9), -1, 2);
    refused(x, "fitAt(-1, 0)", x.fitAt(-1, 0), -1, 2);
    refused(x, "fitAt(0, 0)", x.fitAt(0, 0), -1, 1);
    refused(x, "fitAt(3, 3)", x.fitAt(3, 3), -1, 1);
    refused(x, "fitAt(3, -1)", x.fitAt(3, -1), -1, 1);
    x = of(THREE + ";shows 0 b");
    due("fitAt(2, 1), none", x.fitAt(2, 1), -2);
    due("trouble()", x.trouble(), 0);
    promise = 24;
    due("again()", of(SEVEN).again(), 3);
    due("again() without a plan", of(TWO).again(), 1);
    String twelve = "sea wide 4 high 3 trumps fish calm" + times(12, ";island # joker wool rank 9 people 0");
    due("again() of a cut", of(twelve + ";family x cut 1").again(), 12);
    due("again() of a cut", of(twelve + ";family x cut 8").again(), 3);
    due("again() of a turn and a turn", of(twelve + ";family x turn;family y turn").again(), 1);
    promise = 25;
    x = of(twelve);
    // 2 has the order 10 by 11, and 12 by 13
    due("cycle(0), out of twelve", x.cycle(0), 10);
    due("cycle(1), in of twelve", x.cycle(1), 12);
    due("cycle(2)", x.cycle(2), 2);
    due("cycle(10), cut 8", x.cycle(10), 3);
    due("cycle(13), cut 11", x.cycle(13), 12);
    refused(x, "cycle(14)", x.cycle(14), -1, 1);
    refused(x, "cycle(-1)", x.cycle(-1), -1, 1);
    x.palm(3);
    due("cycle(3) of eleven", x.cycle(3), 11);
    refused(x, "cycle(13) of eleven", x.cycle(13), -1, 1);
    due("cycle(0) of two", of(TWO).cycle(0), 1);
  }

  private static void places() {
    promise = 26;
    DealtSea x = of(ACROSS);
    due("can(1, 0)", x.can(1, 0), 2);
    due("can(1, 1)", x.can(1, 1), 13);
    due("can(1, 2)", x.can(1, 2), 15);
    due("can(1, 12)", x.can(1, 12), 15);
    refused(x, "can(1, 13)", x.can(1, 13), -1, 2);
    refused(x, "can(1, -1)", x.can(1, -1), -1, 2);
    refused(x, "can(4, 13)", x.can(4, 13), -1, 1);
    refused(x, "can(-1, 0)", x.can(-1, 0), -1, 1);
    promise = 27;
    long[] upper = {1, 0, 1, 1};
    long[] lower = {6, 1, 2, 3};
    for (int p = 0; p < 4; p++) {
      due("odds(1, 1, " + p + ", false)", x.odds(1, 1, p, false), upper[p]);
      due("odds(1, 1, " + p + ", true)", x.odds(1, 1, p, true), lower[p]);
    }
    due("odds(1, 0, 1, false)", x.odds(1, 0, 1, false), 1);
    due("odds(1, 0, 1, true)", x.odds(1, 0, 1, true), 1);
    due("odds behind eight", x.odds(1, 8, 1, true) > 1, true);
    refused(x, "odds(1, 9, 0, true)", x.odds(1, 9, 0, true), -1, 2);
    refused(x, "odds(1, -1, 0, true)", x.odds(1, -1, 0, true), -1, 2);
    refused(x, "odds(1, 9, 4, true)", x.odds(1, 9, 4, true), -1, 1);
    refused(x, "odds(1, 0, -1, true)", x.odds(1, 0, -1, true), -1, 1);
    refused(x, "odds(4, 0, 0, true)", x.odds(4, 0, 0, true), -1, 1);
    promise = 28;
    DealtSea y = of(FIVE);
    // e goes by out to 3, by in it stays at 4, by a turn to 0, by cuts to 3, 2, 1, 0
    due("inSea(4, 1, false)", y.inSea(4, 1, false), 6);
    due("inSea(4, 1, true)", y.inSea(4, 1, true), 7);
    due("inSea(4, 0, false)", y.inSea(4, 0, false), 0);
    due("inSea(4, 0, true)", y.inSea(4, 0, true), 1);
    due("inSea(0, 0, false)", y.inSea(0, 0, false), 1);
    due("inSea(1, 8, true), all lie in it", x.inSea(1, 8, true), 1);
    due("inSea(1, 8, false), all lie in it", x.inSea(1, 8, false), 1);
    refused(y, "inSea(0, 9, true)", y.inSea(0, 9, true), -1, 2);
    refused(y, "inSea(0, -1, true)", y.inSea(0, -1, true), -1, 2);
    refused(y, "inSea(5, 9, true)", y.inSea(5, 9, true), -1, 1);
    promise = 29;
    DealtSea z = of(TWO);
    // of two cards three of four moves change places: 1 by 2 to the power of the moves is left
    int[] percents = {100, 99, 50, 49, 25, 24, 12, 1, 0};
    int[] want = {0, 1, 1, 2, 2, 3, 4, 7, -2};
    for (int k = 0; k < want.length; k++) due("alike(0, " + percents[k] + ")", z.alike(0, percents[k]), want[k]);
    due("trouble()", z.trouble(), 0);
    refused(z, "alike(0, 101)", z.alike(0, 101), -1, 2);
    refused(z, "alike(0, -1)", z.alike(0, -1), -1, 2);
    refused(z, "alike(2, 101)", z.alike(2, 101), -1, 1);
    y.palm(4);
    promise = 26;
    refused(y, "can(4, 0) palmed", y.can(4, 0), -1, 1);
    due("can(0, 1) behind a palm", y.can(0, 1), 15);
    promise = 27;
    refused(y, "odds(4, 9, 0, true) palmed", y.odds(4, 9, 0, true), -1, 1);
    due("odds(1, 1, 2, true) behind a palm", y.odds(1, 1, 2, true), 2);
    promise = 28;
    refused(y, "inSea(4, 9, true) palmed", y.inSea(4, 9, true), -1, 1);
    promise = 29;
    refused(y, "alike(4, 101) palmed", y.alike(4, 101), -1, 1);
  }

  private static void fewestMoves() {
    promise = 30;
    DealtSea x = of(ACROSS);
    due("fewest(1, 1)", x.fewest(1, 1), 0);
    due("fewest(1, 2)", x.fewest(1, 2), 1);
    due("fewest(1, 0)", x.fewest(1, 0), 1);
    refused(x, "fewest(1, 4)", x.fewest(1, 4), -1, 1);
    refused(x, "fewest(1, -1)", x.fewest(1, -1), -1, 1);
    refused(x, "fewest(4, 0)", x.fewest(4, 0), -1, 1);
    promise = 31;
    due("moveAt(1, 2, 0), out", x.moveAt(1, 2, 0), 0);
    due("moveAt(1, 3, 0), in", x.moveAt(1, 3, 0), 1);
    due("moveAt(1, 0, 0), cut 1", x.moveAt(1, 0, 0), 3);
    refused(x, "moveAt(1, 1, 0)", x.moveAt(1, 1, 0), -1, 1);
    refused(x, "moveAt(1, 2, 1)", x.moveAt(1, 2, 1), -1, 1);
    refused(x, "moveAt(1, 2, -1)", x.moveAt(1, 2, -1), -1, 1);
    refused(x, "moveAt(4, 0, 0)", x.moveAt(4, 0, 0), -1, 1);
    promise = 32;
    due("together(0, 1)", x.together(0, 1), 0);
    due("together(0, 3)", x.together(0, 3), 1);
    refused(x, "together(0, 0)", x.together(0, 0), -1, 1);
    refused(x, "together(0, 4)", x.together(0, 4), -1, 1);
    refused(x, "together(-1, 0)", x.together(-1, 0), -1, 1);
    promise = 33;
    due("togetherAt(0, 3, 0), cut 1", x.togetherAt(0, 3, 0), 3);
    refused(x, "togetherAt(0, 3, 1)", x.togetherAt(0, 3, 1), -1, 1);
    refused(x, "togetherAt(0, 3, -1)", x.togetherAt(0, 3, -1), -1, 1);
    refused(x, "togetherAt(0, 1, 0)", x.togetherAt(0, 1, 0), -1, 1);
    refused(x, "togetherAt(3, 3, 0)", x.togetherAt(3, 3, 0), -1, 1);
    promise = 34;
    due("three(0, 1, 2)", x.three(0, 1, 2), 0);
    due("three(3, 0, 1)", x.three(3, 0, 1), 0);
    refused(x, "three(0, 1, 0)", x.three(0, 1, 0), -1, 1);
    refused(x, "three(0, 0, 1)", x.three(0, 0, 1), -1, 1);
    refused(x, "three(1, 0, 0)", x.three(1, 0, 0), -1, 1);
    refused(x, "three(0, 1, 4)", x.three(0, 1, 4), -1, 1);
    tideAndPalm();
  }

  private static void tideAndPalm() {
    promise = 32;
    DealtSea x = of(ACROSS.replace("calm", "tide"));
    due("together(0, 1), all are corners", x.together(0, 1), -2);
    due("trouble()", x.trouble(), 0);
    promise = 33;
    refused(x, "togetherAt(0, 1, 0)", x.togetherAt(0, 1, 0), -1, 1);
    promise = 34;
    due("three(0, 1, 2), all are corners", x.three(0, 1, 2), -2);
    // of the cross the middle is beside all others: three hang together only with one of them in it
    DealtSea y = of(CROSS);
    due("three(1, 4, 7)", y.three(1, 4, 7), 0);
    due("three(1, 3, 5), none is in the middle", y.three(1, 3, 5) > 0, true);
    promise = 32;
    due("together(1, 3)", y.together(1, 3) > 0, true);
    y.palm(0);
    promise = 30;
    refused(y, "fewest(0, 0) palmed", y.fewest(0, 0), -1, 1);
    refused(y, "fewest(1, 9) of nine", y.fewest(1, 9), -1, 1);
    promise = 31;
    refused(y, "moveAt(0, 0, 0) palmed", y.moveAt(0, 0, 0), -1, 1);
    promise = 32;
    refused(y, "together(0, 1) palmed", y.together(0, 1), -1, 1);
    refused(y, "together(1, 0) palmed", y.together(1, 0), -1, 1);
    promise = 33;
    refused(y, "togetherAt(0, 1, 0) palmed", y.togetherAt(0, 1, 0), -1, 1);
    promise = 34;
    refused(y, "three(1, 2, 0) palmed", y.three(1, 2, 0), -1, 1);
    promise = 34;
    due("three(0, 1, 2) of three cards", of(THREE).three(0, 1, 2), 0);
  }

  private static void best() {
    DealtSea x = of(ACROSS);
    promise = 35;
    due("best()", x.best(), 3);
    due("best(), none is better", of(ACROSS.replace("calm", "tide")).best(), 0);
    promise = 36;
    due("bestTrades()", x.bestTrades(), 3);
    promise = 37;
    due("bestTwo()", x.bestTwo(), 3);
    promise = 38;
    due("exchange()", x.exchange(), 1);
    due("the deck stays", x.card(0), 0);
    due("nothing to undo", x.size(10), 0);
    x.deal(3);
    // b c / d a trades 3: out keeps b and a, and brings c under b
    promise = 35;
    due("best() of b c d a", x.best(), 0);
    promise = 38;
    // b at 0 with c at 1 and d at 2 with a at 3: changing 0 and 1 keeps both pairs
    due("exchange() of b c d a", x.exchange(), 1);
    promise = 37;
    due("bestTwo() of b c d a", x.bestTwo(), 0);
    // only d and e are of one good: a e / c d needs e at 1, which only an exchange of 1 and 4 brings
    x = of("sea wide 2 high 2 trumps fish calm;island a plain fish rank 1 people 1;island b plain wool rank 3 people 1;island c plain sheep rank 5 people 1;island d plain salt rank 7 people 1;island e marked salt rank 9 people 1");
    promise = 38;
    due("exchange()", x.exchange(), 104);
    promise = 36;
    due("bestTrades()", x.bestTrades(), 2);
    promise = 35;
    // out: a d b e c, so d is beside e
    due("best()", x.best(), 0);
  }

  /** Two places of the sea, 1 and 4, are beside each other, with fish in both; any move parts them. */
  private static void nothingIsBetter() {
    DealtSea x = of("sea wide 3 high 2 trumps fish tide;island a plain salt rank 1 people 1;island b plain fish rank 1 people 1;island c plain wool rank 1 people 1;island d plain wool rank 1 people 1;island e plain fish rank 1 people 1");
    due("trades()", x.trades(), 2);
    promise = 35;
    due("best(), out brings the two of wool there", x.best(), 0);
    promise = 36;
    due("bestTrades()", x.bestTrades(), 1);
    promise = 37;
    due("bestTwo(), out twice brings the fish back", x.bestTwo(), 0);
    promise = 38;
    due("exchange(), one that leaves them", x.exchange(), 2);
  }

  /** Rows of two and three moves, the first of the shortest. */
  private static void longerRows() {
    DealtSea x = of("sea wide 3 high 2 trumps fish calm;island a plain wool rank 1 people 1;island b plain fish rank 1 people 1;island c plain wool rank 1 people 1;island d plain fish rank 1 people 1");
    promise = 32;
    due("together(1, 3)", x.together(1, 3), 2);
    promise = 33;
    due("togetherAt(1, 3, 0)", x.togetherAt(1, 3, 0), 0);
    due("togetherAt(1, 3, 1)", x.togetherAt(1, 3, 1), 2);
    refused(x, "togetherAt(1, 3, 2)", x.togetherAt(1, 3, 2), -1, 1);
    promise = 40;
    // these two are from a table of all pairs of moves that another program made
    due("rests(2, 1)", x.rests(2, 1), 4);
    promise = 41;
    due("rest(2, 1)", x.rest(2, 1), 402);
    x = of("sea wide 3 high 2 trumps fish tide" + times(6, ";island # plain salt rank 1 people 1"));
    promise = 32;
    due("together(0, 2)", x.together(0, 2), 3);
    promise = 33;
    due("togetherAt(0, 2, 0)", x.togetherAt(0, 2, 0), 0);
    due("togetherAt(0, 2, 1)", x.togetherAt(0, 2, 1), 0);
    due("togetherAt(0, 2, 2)", x.togetherAt(0, 2, 2), 4);
    promise = 34;
    due("three(0, 1, 2), only two places hang together", x.three(0, 1, 2), -2);
    due("three(0, 2, 4) of six cards in a 2 by 2 sea", of("sea wide 2 high 2 trumps fish calm" + times(6, ";island # plain salt rank 1 people 1")).three(0, 2, 4), 2);
  }

  /** What was told earlier is forgotten, also two seas later. */
  private static void seasInTurn() {
    promise = 3;
    DealtSea x = of("sea wide 4 high 3 trumps fish calm" + times(12, ";island # plain wool rank 9 people 0") + ";family x out;wish a b;shows 1 a");
    due("trades()", x.trades(), 17);
    tell(x, CROSS);
    due("trades()", x.trades(), 5);
    tell(x, CROSS.replace("tide", "calm"));
    due("beside(4)", x.beside(4), 170);
    due("beside(0)", x.beside(0), 10);
    tell(x, TWO);
    due("beside(0)", x.beside(0), 2);
    tell(x, ACROSS);
    int[] want = {6, 9, 9, 6};
    for (int i = 0; i < 4; i++) due("beside(" + i + ")", x.beside(i), want[i]);
    due("size(5)", x.size(5), 0);
    due("size(6)", x.size(6), 0);
    due("size(7)", x.size(7), 0);
  }

  private static void manyActs() {
    promise = 48;
    for (int acts = 1; acts <= 50; acts++) {
      DealtSea x = of(FIVE);
      for (int k = 0; k < acts; k++) x.deal(3);
      int kept = Math.min(acts, 16);
      for (int k = 1; k <= kept; k++) {
        due("undo()", x.undo(), true);
        due("card(0) behind " + acts + " cuts, " + k + " undone", x.card(0), (acts - k) % 5);
      }
      due("undo()", x.undo(), false);
    }
  }

  private static void game() {
    DealtSea x = of(ACROSS);
    promise = 39;
    due("gain(2, 3, 3, 0)", x.gain(2, 3, 3, 0), 1);
    due("gain(3, 2, 3, 0)", x.gain(3, 2, 3, 0), -1);
    due("gain(2, 0, 3, 0)", x.gain(2, 0, 3, 0), 2);
    due("gain(2, 2, 3, 0)", x.gain(2, 2, 3, 0), 0);
    due("gain(2, 3, 3, 3)", x.gain(2, 3, 3, 3), 0);
    due("trouble()", x.trouble(), 0);
    refused(x, "gain(4, 0, 0, 0)", x.gain(4, 0, 0, 0), -1000, 1);
    refused(x, "gain(0, 4, 0, 0)", x.gain(0, 4, 0, 0), -1000, 1);
    refused(x, "gain(0, -1, 0, 0)", x.gain(0, -1, 0, 0), -1000, 1);
    refused(x, "gain(0, 0, 6, 0)", x.gain(0, 0, 6, 0), -1000, 1);
    refused(x, "gain(0, 0, 0, 6)", x.gain(0, 0, 0, 6), -1000, 1);
    refused(x, "gain(0, 0, 0, -1)", x.gain(0, 0, 0, -1), -1000, 1);
    promise = 40;
    due("rests(2, 3)", x.rests(2, 3), 0);
    due("rests(0, 1)", x.rests(0, 1), 36);
    refused(x, "rests(4, 0)", x.rests(4, 0), -1, 1);
    refused(x, "rests(0, -1)", x.rests(0, -1), -1, 1);
    promise = 41;
    due("rest(2, 3)", x.rest(2, 3), -2);
    due("trouble()", x.trouble(), 0);
    due("rest(0, 1)", x.rest(0, 1), 0);
    refused(x, "rest(4, 0)", x.rest(4, 0), -1, 1);
    refused(x, "rest(0, -1)", x.rest(0, -1), -1, 1);
    // by two cards that are always beside each other all is alike
    due("rest(1, 0)", of(TWO).rest(1, 0), 0);
    promise = 40;
    due("rests(1, 0)", of(TWO).rests(1, 0), 16);
  }

  private static void decades() {
    DealtSea x = of(FIVE);
    // by seed 1: turn, out, cut 1: e d c b a, e b d a c, b d a c e
    promise = 42;
    int[] trades = {0, 0, 2, 5};
    for (int n = 0; n < 4; n++) due("decade(1, " + n + ")", x.decade(1, n), trades[n]);
    promise = 43;
    int[] wishes = {0, 0, 1, 3};
    for (int n = 0; n < 4; n++) due("decadeWishes(1, " + n + ")", x.decadeWishes(1, n), wishes[n]);
    promise = 44;
    int[] years = {2, 3, 2, 3, 2};
    for (int i = 0; i < 5; i++) due("decadeOf(" + i + ", 1, 3)", x.decadeOf(i, 1, 3), years[i]);
    due("the deck stays", x.card(4), 4);
    promise = 42;
    due("decade(1, 1), two moves a year", of(FIVE + ";family g in").decade(1, 1), 2);
    due("decade(65536, 50)", x.decade(65536, 50) >= 0, true);
    due("decade(0, 50) without a plan", of(TWO).decade(0, 50), 100);
    refused(x, "decade(65537, 1)", x.decade(65537, 1), -1, 2);
    refused(x, "decade(-1, 1)", x.decade(-1, 1), -1, 2);
    refused(x, "decade(0, 51)", x.decade(0, 51), -1, 2);
    refused(x, "decade(0, -1)", x.decade(0, -1), -1, 2);
    promise = 43;
    refused(x, "decadeWishes(65537, 1)", x.decadeWishes(65537, 1), -1, 2);
    refused(x, "decadeWishes(0, 51)", x.decadeWishes(0, 51), -1, 2);
    promise = 44;
    refused(x, "decadeOf(0, 65537, 1)", x.decadeOf(0, 65537, 1), -1, 2);
    refused(x, "decadeOf(0, 0, 51)", x.decadeOf(0, 0, 51), -1, 2);
    refused(x, "decadeOf(5, 0, 51)", x.decadeOf(5, 0, 51), -1, 1);
    refused(x, "decadeOf(-1, 0, 0)", x.decadeOf(-1, 0, 0), -1, 1);
    x.palm(0);
    due("decadeOf(0, 1, 3) palmed", x.decadeOf(0, 1, 3), 0);
    due("trouble()", x.trouble(), 0);
  }

  private static void acts() {
    DealtSea x = of(ACROSS);
    promise = 45;
    due("deal(3)", x.deal(3), 3);
    due("card(0)", x.card(0), 1);
    refused(x, "deal(6)", x.deal(6), -1, 1);
    refused(x, "deal(-1)", x.deal(-1), -1, 1);
    due("size(10)", x.size(10), 1);
    promise = 46;
    refused(x, "palm(4)", x.palm(4), -1, 1);
    refused(x, "palm(-1)", x.palm(-1), -1, 1);
    due("palm(1)", x.palm(1), 2);
    due("size(8)", x.size(8), 3);
    due("size(9)", x.size(9), 5);
    refused(x, "palm(0), one is palmed", x.palm(0), -1, 5);
    refused(x, "palm(3), one is palmed", x.palm(3), -1, 1);
    promise = 45;
    refused(x, "deal(5) of three", x.deal(5), -1, 1);
    promise = 47;
    due("lay()", x.lay(), true);
    due("trouble()", x.trouble(), 0);
    due("card(3)", x.card(3), 2);
    due("card(1)", x.card(1), 3);
    due("lay() again", x.lay(), false);
    due("trouble()", x.trouble(), 6);
    promise = 46;
    DealtSea y = of(TWO);
    refused(y, "palm(0), two are left", y.palm(0), -1, 5);
    refused(y, "palm(2), two are left", y.palm(2), -1, 1);
    promise = 48;
    due("undo(), the lay", x.undo(), true);
    due("island(2, 4)", x.island(2, 4), -2);
    due("undo(), the palm", x.undo(), true);
    due("card(1)", x.card(1), 2);
    due("size(8)", x.size(8), 4);
    due("undo(), the deal", x.undo(), true);
    due("trouble()", x.trouble(), 0);
    due("card(0)", x.card(0), 0);
    due("undo(), nothing is left", x.undo(), false);
    due("trouble()", x.trouble(), 6);
    for (int k = 0; k < 18; k++) x.deal(3);
    due("size(10), 16 are kept", x.size(10), 16);
    for (int k = 0; k < 16; k++) due("undo()", x.undo(), true);
    due("undo() of a seventeenth", x.undo(), false);
    // 18 cuts less 16 that were undone
    due("card(0)", x.card(0), 2);
  }

  private static void images() {
    DealtSea x = of(FIVE);
    promise = 49;
    due("image()", x.image(), 0);
    x.deal(2);
    x.palm(1);
    due("image()", x.image(), 1);
    x.lay();
    due("image()", x.image(), 2);
    due("size(10)", x.size(10), 3);
    refused(x, "image(), no room", x.image(), -1, 3);
    due("size(11)", x.size(11), 3);
    promise = 50;
    due("back(1)", x.back(1), true);
    due("trouble()", x.trouble(), 0);
    due("the palmed one", x.island(3, 4), -2);
    due("card(0)", x.card(0), 4);
    due("size(8)", x.size(8), 4);
    due("size(10), nothing can be undone", x.size(10), 0);
    due("undo()", x.undo(), false);
    due("size(11), all stay", x.size(11), 3);
    due("lay()", x.lay(), true);
    due("back(0)", x.back(0), true);
    due("card(0)", x.card(0), 0);
    due("size(8)", x.size(8), 5);
    due("back(2)", x.back(2), true);
    due("card(4)", x.card(4), 3);
    due("back(3)", x.back(3), false);
    due("trouble()", x.trouble(), 1);
    due("back(-1)", x.back(-1), false);
    due("trouble()", x.trouble(), 1);
    due("back(0) without images", of(TWO).back(0), false);
  }

  private static void led() {
    promise = 51;
    DealtSea x = of(FIVE);
    due("led(0)", ledOr(x, 0), 4);
    due("led(1)", ledOr(x, 1), -7);
    due("led(-1)", ledOr(x, -1), -7);
    refused(x, "card(9)", x.card(9), -1, 1);
    ledOr(x, 0);
    ledOr(x, 1);
    due("trouble() that led leaves alone", x.trouble(), 1);
    x.palm(4);
    due("led(0), the palmed one is no discard", ledOr(x, 0), -7);
    due("led(0) of no sea", ledOr(new DealtSea(), 0), -7);
    x = of(FIVE + ";island z joker fish rank 1 people 1");
    x.deal(2);
    due("led(0), by numbers", ledOr(x, 0), 0);
    due("led(1), by numbers", ledOr(x, 1), 1);
    due("led(2)", ledOr(x, 2), -7);
  }

  private static void sizes() {
    promise = 52;
    DealtSea x = of(CROSS + ";family u out;shows 8 a;shows 8 b");
    x.image();
    x.deal(0);
    x.palm(0);
    x.feed(1, 2, 3, 4, 5);
    int[] want = {3, 3, 1, 1, 10, 1, 3, 2, 9, 11, 2, 1, 20};
    for (int what = 0; what < want.length; what++) due("size(" + what + ")", x.size(what), want[what]);
    refused(x, "card(9)", x.card(9), -1, 1);
    due("size(13)", x.size(13), -1);
    due("size(-1)", x.size(-1), -1);
    x.size(0);
    due("trouble() that size leaves alone", x.trouble(), 1);
    due("size(2) of sheep", of(TWO.replace("trumps fish calm", "trumps sheep tide")).size(2), 0);
    due("size(2) of salt", of(TWO.replace("trumps fish calm", "trumps salt tide")).size(2), 3);
  }

  private static void noSea() {
    promise = 53;
    DealtSea x = new DealtSea();
    long[] answers = {x.island(0, 0), x.card(0), x.beside(0), x.trade(0, 1), x.trades(), x.wars(), x.run(), x.runAt(0), x.journey(0, 0), x.wishes(), x.crowd(), x.nearest(0, 0), x.people(0), x.planned(0, 0), x.plannedTrades(0), x.judge(), x.fits(0), x.fitAt(1, 0), x.again(), x.cycle(0), x.can(0, 0), x.odds(0, 0, 0, true), x.inSea(0, 0, true), x.alike(0, 0), x.fewest(0, 0), x.moveAt(0, 0, 0), x.together(0, 1), x.togetherAt(0, 1, 0), x.three(0, 1, 2), x.best(), x.bestTrades(), x.bestTwo(), x.exchange(), x.rests(0, 0), x.rest(0, 0), x.decade(0, 0), x.decadeWishes(0, 0), x.decadeOf(0, 0, 0), x.deal(0), x.palm(0), x.image()};
    for (int k = 0; k < answers.length; k++) due("call " + k + " of no sea", answers[k], -1);
    refused(x, "gain", x.gain(0, 0, 0, 0), -1000, 1);
    x.undo();
    due("undo(), its trouble", x.trouble(), 6);
    due("back(0)", x.back(0), false);
    due("back(0), its trouble", x.trouble(), 1);
    x.undo();
    due("lay()", x.lay(), false);
    due("lay(), its trouble", x.trouble(), 1);
    // where both could be told, having no sea comes ahead of a number
    noSeaAheadOfNumbers(new DealtSea());
  }

  private static void noSeaAheadOfNumbers(DealtSea x) {
    refused(x, "plannedTrades(-1)", reset(x).plannedTrades(-1), -1, 1);
    refused(x, "fits(9)", reset(x).fits(9), -1, 1);
    refused(x, "fitAt(9, 9)", reset(x).fitAt(9, 9), -1, 1);
    refused(x, "decade(-1, -1)", reset(x).decade(-1, -1), -1, 1);
    refused(x, "decadeWishes(-1, -1)", reset(x).decadeWishes(-1, -1), -1, 1);
    refused(x, "image()", reset(x).image(), -1, 1);
    refused(x, "trades()", reset(x).trades(), -1, 1);
    refused(x, "wars()", reset(x).wars(), -1, 1);
    refused(x, "run()", reset(x).run(), -1, 1);
    refused(x, "wishes()", reset(x).wishes(), -1, 1);
    refused(x, "crowd()", reset(x).crowd(), -1, 1);
    refused(x, "people(0)", reset(x).people(0), -1, 1);
    refused(x, "judge()", reset(x).judge(), -1, 1);
    refused(x, "again()", reset(x).again(), -1, 1);
    refused(x, "best()", reset(x).best(), -1, 1);
    refused(x, "bestTrades()", reset(x).bestTrades(), -1, 1);
    refused(x, "bestTwo()", reset(x).bestTwo(), -1, 1);
    refused(x, "exchange()", reset(x).exchange(), -1, 1);
    refused(x, "rests(0, 0)", reset(x).rests(0, 0), -1, 1);
    refused(x, "rest(0, 0)", reset(x).rest(0, 0), -1, 1);
    refused(x, "deal(0)", reset(x).deal(0), -1, 1);
  }

  /** Leaves a trouble that the next call must write over. */
  private static DealtSea reset(DealtSea x) {
    x.undo();
    return x;
  }

  private static void troubleIsOver() {
    promise = 53;
    DealtSea x = of(SEVEN);
    refused(x, "card(9)", x.card(9), -1, 1);
    x.card(0);
    due("trouble() behind a call that wasn't refused", x.trouble(), 0);
    reset(x).odds(0, 1, 0, true);
    due("trouble() behind odds", x.trouble(), 0);
    reset(x).inSea(0, 1, true);
    due("trouble() behind inSea", x.trouble(), 0);
    reset(x).gain(0, 0, 0, 0);
    due("trouble() behind gain", x.trouble(), 0);
    reset(x).fewest(0, 0);
    due("trouble() behind fewest", x.trouble(), 0);
    due("trouble() twice", x.trouble(), 0);
  }

  public static void main(String[] args) {
    newObject();
    feed();
    sea();
    faultsOfForm();
    otherFaults();
    latestFault();
    soundTexts();
    where();
    islandsAndCards();
    besideAndTrades();
    runs();
    journeys();
    wishesAndPeople();
    plan();
    fits();
    places();
    fewestMoves();
    best();
    nothingIsBetter();
    longerRows();
    seasInTurn();
    manyActs();
    game();
    decades();
    acts();
    images();
    led();
    sizes();
    noSea();
    troubleIsOver();
    due("NONE", DealtSea.NONE, -1);
    System.out.println(wrong == 0 ? "all answers are as due" : wrong + " answers are not as due");
    if (wrong != 0) System.exit(1);
  }
}
