import java.lang.reflect.InvocationTargetException;
import java.lang.reflect.Method;
import java.lang.reflect.Modifier;

/** The edges that the document names for the text, the tape and the sea: a method for each, all of which main runs. */
public final class TextEdgesTest {
  private static int wrong = 0;
  private static String edge = "";

  private static void due(String what, long got, long want) {
    if (got != want) { wrong++; System.out.println(edge + ": " + what + " answered " + got + ", due is " + want); }
  }

  private static void feedText(DealtSea x, String text) {
    String t = text + " ".repeat((20 - text.length() % 20) % 20);
    for (int p = 0; p < t.length(); p += 20) {
      int[] a = new int[5];
      for (int c = 0; c < 20; c++) a[c / 4] = a[c / 4] << 8 | t.charAt(p + c) & 255;
      due("feed", x.feed(a[0], a[1], a[2], a[3], a[4]), p + 20);
    }
  }

  private static int tell(DealtSea x, String text) {
    feedText(x, text);
    return x.sea(text.length());
  }

  private static void faulty(String text, int fault, int place) {
    DealtSea x = new DealtSea();
    due("'" + text + "'", tell(x, text), -1);
    due("trouble of '" + text + "'", x.trouble(), 4);
    due("fault of '" + text + "'", x.fault(), fault);
    due("where of '" + text + "'", x.where(), place);
  }

  /** The fault is at the first byte of what comes behind. */
  private static void faultyAt(String ahead, String behind, int fault) { faulty(ahead + behind, fault, ahead.length()); }

  private static DealtSea sound(String text, int islands) {
    DealtSea x = new DealtSea();
    due("'" + text + "'", tell(x, text), islands);
    due("trouble of '" + text + "'", x.trouble(), 0);
    due("fault of '" + text + "'", x.fault(), 0);
    due("where of '" + text + "'", x.where(), -1);
    return x;
  }

  private static String lines(int n, String line) {
    StringBuilder t = new StringBuilder();
    for (int k = 0; k < n; k++) t.append(';').append(line.replace("#", "" + (char) ('a' + k)));
    return t.toString();
  }

  private static final String HEAD = "sea wide 2 high 2 trumps fish calm";
  private static final String PAIR = HEAD + ";island a plain fish rank 1 people 1;island b joker salt rank 9 people 99";
  private static final String WIDE = "sea wide 4 high 3 trumps fish calm";
  private static final String ISLAND = "island # plain fish rank 1 people 1";

  // ---- the tape

  private static void tapeHas900Bytes() {
    DealtSea x = new DealtSea();
    for (int f = 1; f <= 45; f++) due("feed", x.feed(0, 0, 0, 0, 0), 20 * f);
    due("feed of a full tape", x.feed(0, 0, 0, 0, 0), -1);
    due("size(12)", x.size(12), 900);
    due("feed of a full tape", x.feed(-1, -1, -1, -1, -1), -1);
    due("size(12)", x.size(12), 900);
  }

  private static void textFillsTheTape() {
    String text = PAIR + " ".repeat(900 - PAIR.length());
    due("size(4)", sound(text, 2).size(4), 2);
    faulty(PAIR + " ".repeat(899 - PAIR.length()) + ";", 1, 900);
    faulty(PAIR + " ".repeat(899 - PAIR.length()) + "!", 1, 899);
    faulty(" ".repeat(900), 1, 900);
  }

  private static void fullTapeStaysWhatItWas() {
    DealtSea x = new DealtSea();
    feedText(x, PAIR + " ".repeat(900 - PAIR.length()));
    due("feed of a full tape", x.feed(0x21212121, 0x21212121, 0x21212121, 0x21212121, 0x21212121), -1);
    due("sea(900)", x.sea(900), 2);
  }

  private static void feedTakesTheHighestByteFirst() {
    int[] signs = {0x21000000, 0x210000, 0x2100, 0x21};
    for (int k = 0; k < 4; k++) {
      for (int n = 0; n < 5; n++) {
        int[] a = new int[5];
        for (int m = 0; m < 5; m++) a[m] = 0x20202020;
        a[n] = a[n] & ~(signs[k] / 0x21 * 255) | signs[k];
        DealtSea x = new DealtSea();
        x.feed(a[0], a[1], a[2], a[3], a[4]);
        due("sea(20)", x.sea(20), -1);
        due("where() of byte " + k + " of number " + n, x.where(), 4 * n + k);
      }
    }
  }

  private static void feedTellsNoTrouble() {
    DealtSea x = new DealtSea();
    for (int f = 0; f < 45; f++) x.feed(0, 0, 0, 0, 0);
    x.feed(0, 0, 0, 0, 0);
    due("trouble() behind a refused feed", x.trouble(), 0);
    x.card(0);
    x.feed(0, 0, 0, 0, 0);
    due("trouble() behind a refused feed", x.trouble(), 1);
  }

  // ---- sea(n)

  private static void seaOfMoreThanTheTapeHas() {
    DealtSea x = new DealtSea();
    for (int n : new int[] {1, 20, 900, 901, Integer.MAX_VALUE}) { due("sea(" + n + ")", x.sea(n), -1); due("trouble()", x.trouble(), 2); }
    feedText(x, PAIR);
    int fed = x.size(12);
    for (int n : new int[] {fed + 1, 901, Integer.MAX_VALUE}) { due("sea(" + n + ")", x.sea(n), -1); due("trouble()", x.trouble(), 2); }
    due("size(12), the tape stays", x.size(12), fed);
    due("sea of all that it has", x.sea(fed), 2);
  }

  private static void seaOfFewerThanNone() {
    DealtSea x = new DealtSea();
    feedText(x, PAIR);
    int fed = x.size(12);
    for (int n : new int[] {-1, -2, Integer.MIN_VALUE}) {
      due("sea(" + n + ")", x.sea(n), -1);
      due("trouble()", x.trouble(), 2);
      due("where()", x.where(), -1);
      due("size(12)", x.size(12), fed);
    }
    due("sea(n)", x.sea(PAIR.length()), 2);
  }

  private static void seaOfNoBytes() {
    DealtSea x = new DealtSea();
    due("sea(0)", x.sea(0), -1);
    due("trouble()", x.trouble(), 4);
    due("fault()", x.fault(), 1);
    due("where()", x.where(), 0);
    feedText(x, PAIR);
    due("sea(0)", x.sea(0), -1);
    due("size(12), it is empty then", x.size(12), 0);
  }

  private static void bytesBehindAreForgotten() {
    DealtSea x = new DealtSea();
    feedText(x, PAIR + ";family f out");
    due("sea(n)", x.sea(PAIR.length()), 2);
    due("size(5)", x.size(5), 0);
    due("size(12)", x.size(12), 0);
    due("sea(1)", x.sea(1), -1);
    due("trouble()", x.trouble(), 2);
  }

  private static void aTokenEndsWhereTheTextDoes() {
    DealtSea x = new DealtSea();
    feedText(x, PAIR);
    due("sea(n), one digit fewer", x.sea(PAIR.length() - 1), 2);
    due("people", x.island(1, 3), 9);
    feedText(x, PAIR + ";family f out");
    due("sea(n), one letter fewer", x.sea(PAIR.length() + 12), -1);
    due("where()", x.where(), PAIR.length() + 10);
  }

  private static void faultyTextEmptiesTheTape() {
    DealtSea x = new DealtSea();
    due("a faulty text", tell(x, "sea"), -1);
    due("size(12)", x.size(12), 0);
    due("a sound text", tell(x, PAIR), 2);
    due("size(12)", x.size(12), 0);
  }

  private static void faultyTextLeavesTheSea() {
    DealtSea x = sound("sea wide 3 high 2 trumps wool tide" + lines(8, ISLAND) + ";family x in;family y cut 3;wish a b;wish c d;wish e f;shows 5 g", 8);
    x.image();
    x.deal(3);
    x.image();
    x.palm(2);
    due("a faulty text", tell(x, WIDE + lines(3, "island # joker salt rank 9 people 9") + ";family x turn;wish a c;shows 0 a;shows 99 a"), -1);
    int[] sizes = {3, 2, 2, 1, 8, 2, 3, 1, 7, 9, 2, 2, 0};
    for (int what = 0; what < sizes.length; what++) due("size(" + what + ")", x.size(what), sizes[what]);
    due("island(0, 0)", x.island(0, 0), 0);
    due("island(0, 1)", x.island(0, 1), 1);
    due("island(0, 2)", x.island(0, 2), 1);
    due("island(3, 4), the palmed one", x.island(3, 4), -2);
    due("card(0)", x.card(0), 1);
    due("planned(0, 1), in", x.planned(0, 1), 4);
    due("planned(0, 2), in and cut 3", x.planned(0, 2), 1);
    due("undo()", x.undo() ? 1 : 0, 1);
    due("card(2)", x.card(2), 3);
    due("back(0)", x.back(0) ? 1 : 0, 1);
    due("card(0)", x.card(0), 0);
  }

  private static void seaRefusedByItsNumberLeavesAll() {
    DealtSea x = sound(PAIR + ";island c plain fish rank 1 people 1", 3);
    x.deal(2);
    x.image();
    x.palm(0);
    x.sea(1);
    due("size(8)", x.size(8), 2);
    due("size(10)", x.size(10), 2);
    due("size(11)", x.size(11), 1);
    due("island(2, 4)", x.island(2, 4), -2);
  }

  private static void newSeaBeginsAnew() {
    DealtSea x = sound("sea wide 3 high 2 trumps wool tide" + lines(8, ISLAND) + ";family x in;wish a b;shows 5 g", 8);
    x.image();
    x.deal(2);
    x.palm(0);
    due("another sea", tell(x, PAIR), 2);
    int[] sizes = {2, 2, 1, 0, 2, 0, 0, 0, 2, 4, 0, 0, 0};
    for (int what = 0; what < sizes.length; what++) due("size(" + what + ")", x.size(what), sizes[what]);
    for (int p = 0; p < 2; p++) due("card(" + p + ")", x.card(p), p);
    due("undo(), nothing to undo", x.undo() ? 1 : 0, 0);
    due("back(0), no images", x.back(0) ? 1 : 0, 0);
    due("lay(), none palmed", x.lay() ? 1 : 0, 0);
    due("trouble()", x.trouble(), 6);
    due("the same sea again", tell(x, PAIR), 2);
    due("card(0)", x.card(0), 0);
  }

  /** What an earlier text told is forgotten, however many texts lie between. */
  private static void earlierTextsAreForgotten() {
    String full = WIDE + lines(12, ISLAND) + ";family x out;family y in;wish a b;wish b c;wish c d;wish d e;wish e f;wish f g;shows 0 b;shows 1 b";
    String bare = WIDE + lines(3, ISLAND);
    for (int between = 0; between < 4; between++) {
      DealtSea x = sound(full, 12);
      for (int k = 0; k <= between; k++) due("a text between", tell(x, k % 2 == 0 ? bare : full), k % 2 == 0 ? 3 : 12);
      due("another text", tell(x, bare), 3);
      due("wishes()", x.wishes(), 0);
      due("decadeWishes(0, 50)", x.decadeWishes(0, 50), 0);
      due("judge()", x.judge(), -2);
      due("again()", x.again(), 1);
      due("fits(1)", x.fits(1), 5);
      due("trades()", x.trades(), 4);
      due("the same wish as in another text", tell(x, bare + ";wish a b"), 3);
      due("wishes()", x.wishes(), 1);
      due("the same wish once more", tell(x, bare + ";wish b a"), 3);
      due("the same names once more", tell(x, bare + ";family x out"), 3);
    }
  }

  // ---- tokens

  private static void blanksMeanNothingElse() {
    due("size(4)", sound("   " + PAIR.replace(" ", "   ").replace(";", "  ;  ") + "   ", 2).size(4), 2);
    sound(HEAD + ";island a plain fish rank1people1;island b plain fish rank1people1", 2);
    sound("sea wide2high2trumps fish calm;island a plain fish rank1people1;island b plain fish rank1people1;shows 3a;family f cut11;wish a b", 2);
  }

  private static void blanksPartTokens() {
    faultyAt("sea ", "wi de 2", 1);
    faultyAt(HEAD + ";island a plain fish rank 1 people 1 ", "2", 1);
    faultyAt("", "seawide 2", 1);
  }

  private static void otherBytesBeginNoToken() {
    for (int sign = 0; sign < 256; sign++) {
      boolean part = sign == ' ' || sign == ';' || sign >= '0' && sign <= '9' || sign >= 'a' && sign <= 'z';
      if (!part) faultyAt(PAIR, "" + (char) sign, 1);
      if (!part) faultyAt(HEAD + ";island ", (char) sign + "a", 1);
    }
    // beside the blank, the small letters and the digits
    for (char sign : new char[] {'\t', '\n', 31, 33, '`', '{', '/', ':', 'A', 'Z', 127, 128, 160, 255}) faultyAt("sea", "" + sign, 1);
  }

  private static void wordsHaveOneToEightLetters() {
    due("size(4)", sound(HEAD + ";island z plain fish rank 1 people 1;island abcdefgh plain fish rank 1 people 1;wish z abcdefgh", 2).size(6), 1);
    faultyAt(HEAD + ";island ", "abcdefghi", 1);
    faultyAt(HEAD + ";island ", "abcdefghi plain", 1);
    faultyAt("", "seaseasea", 1);
    faultyAt(PAIR + ";family ", "z".repeat(60), 1);
    // words of eight that differ in one letter alone are others
    sound(HEAD + ";island aaaaaaaa plain fish rank 1 people 1;island aaaaaaab plain fish rank 1 people 1;island baaaaaaa plain fish rank 1 people 1;island aaaaaaa plain fish rank 1 people 1", 4);
  }

  private static void wholesHaveOneOrTwoDigits() {
    due("a whole of one digit", sound(HEAD + ";island a plain fish rank 1 people 7;island b plain fish rank 01 people 07", 2).island(0, 3), 7);
    due("a whole of two digits", sound(HEAD + ";island a plain fish rank 1 people 7;island b plain fish rank 01 people 07", 2).island(1, 3), 7);
    faultyAt(HEAD + ";island a plain fish rank 1 people ", "007", 1);
    faultyAt(HEAD + ";island a plain fish rank ", "001", 1);
    faultyAt("sea wide ", "9".repeat(40), 1);
    faultyAt("sea wide ", "4294967298", 1);
  }

  private static void semicolonsAreSingle() {
    faultyAt(HEAD + ";", ";island a plain fish rank 1 people 1;island b plain fish rank 1 people 1", 1);
    faultyAt(PAIR + ";", ";", 1);
    faultyAt("", ";" + PAIR, 1);
    faulty(PAIR + ";", 1, PAIR.length() + 1);
    faulty(PAIR + ";  ", 1, PAIR.length() + 3);
  }

  // ---- the line of the sea

  private static void wideIs2To4() {
    for (int n = 0; n <= 99; n++) {
      String ahead = "sea wide ";
      if (n < 2 || n > 4) faultyAt(ahead, n + " high 2 trumps fish calm", 4);
      else due("size(0)", sound(PAIR.replace("wide 2", "wide " + n), 2).size(0), n);
    }
  }

  private static void highIs2To3() {
    for (int n = 0; n <= 99; n++) {
      String ahead = "sea wide 2 high ";
      if (n < 2 || n > 3) faultyAt(ahead, n + " trumps fish calm", 4);
      else due("size(1)", sound(PAIR.replace("high 2", "high " + n), 2).size(1), n);
    }
  }

  private static void trumpsAreOneOfFourGoods() {
    String[] goods = {"sheep", "fish", "wool", "salt"};
    for (int g = 0; g < 4; g++) due("size(2)", sound(PAIR.replace("trumps fish", "trumps " + goods[g]), 2).size(2), g);
    for (String word : new String[] {"corn", "fis", "fishes", "calm", "plain", "sea", "island", ";", "1"}) faultyAt("sea wide 2 high 2 trumps ", word + " calm", 1);
  }

  private static void waterIsCalmOrTide() {
    due("size(3)", sound(PAIR, 2).size(3), 0);
    due("size(3)", sound(PAIR.replace("calm", "tide"), 2).size(3), 1);
    for (String word : new String[] {"wild", "tides", "cal", "fish", "sea", ";", "0"}) faultyAt("sea wide 2 high 2 trumps fish ", word, 1);
  }

  private static void seaIsAheadOfAllOthers() {
    for (String word : new String[] {"island", "family", "wish", "shows"}) {
      faultyAt("", word, 6);
      faultyAt("  ", word + " a plain fish rank 1 people 1;" + PAIR, 6);
      faultyAt("", word + " !", 6);
    }
  }

  private static void seaIsToldOnce() {
    faultyAt(HEAD + ";", "sea", 3);
    faultyAt(PAIR + ";", HEAD, 3);
    faultyAt(PAIR + ";family f out;", "sea wide 9", 3);
  }

  private static void theEndInALineIsItsPlace() {
    String whole = HEAD + ";island a plain fish rank 1 people 1;family f cut 3;island b plain fish rank 1 people 1;wish a b;shows 0 a";
    String[] tokens = whole.replace(";", " ; ").split(" +");
    StringBuilder text = new StringBuilder();
    int lacking = 0;
    for (int t = 0; t + 1 < tokens.length; t++) {
      text.append(tokens[t]).append(' ');
      boolean lineEnds = tokens[t + 1].equals(";");
      // at a line's end the islands lack, till there are two; within a line it is the form, the least number
      if (!lineEnds) faulty(text.toString(), 1, text.length());
      else if (lacking++ < 3) faulty(text.toString(), 6, text.length());
      else sound(text.toString(), 2);
    }
  }

  private static void everyTokenIsWanted() {
    String[] lines = {"wide 2 high 2 trumps fish calm", "island c plain fish rank 1 people 1", "family f cut 3", "wish a b", "shows 0 a"};
    for (int l = 0; l < lines.length; l++) {
      String start = l == 0 ? "sea " : PAIR + ";";
      String[] tokens = lines[l].split(" ");
      StringBuilder ahead = new StringBuilder(start);
      for (int t = 0; t < tokens.length; t++) {
        if (l == 0 || t > 0) {
          faultyAt(ahead.toString(), "; " + tokens[t], 1);
          faultyAt(ahead.toString(), tokens[t].matches("[0-9]+") ? "shows" : "3", 1);
        }
        ahead.append(tokens[t]).append(' ');
      }
      faultyAt(ahead.toString(), "3", 1);
      faultyAt(ahead.toString(), "calm", 1);
    }
  }

  // ---- islands

  private static void rankIs1To9() {
    for (int n = 0; n <= 99; n++) {
      String ahead = HEAD + ";island a plain fish rank ";
      if (n < 1 || n > 9) faultyAt(ahead, n + " people 1", 4);
      else due("island(0, 2)", sound(PAIR.replace("rank 1", "rank " + n), 2).island(0, 2), n);
    }
  }

  private static void peopleAre0To99() {
    for (int n = 0; n <= 99; n++) due("island(0, 3)", sound(PAIR.replace("people 1;", "people " + n + ";"), 2).island(0, 3), n);
    faultyAt(HEAD + ";island a plain fish rank 1 people ", "100", 1);
  }

  private static void kindIsOneOfThree() {
    String[] kinds = {"plain", "marked", "joker"};
    for (int k = 0; k < 3; k++) due("island(0, 0)", sound(PAIR.replace("plain", kinds[k]), 2).island(0, 0), k);
    for (String word : new String[] {"big", "jokers", "plai", "fish", "island", ";", "2"}) faultyAt(HEAD + ";island a ", word + " fish", 1);
  }

  private static void goodIsOneOfFour() {
    String[] goods = {"sheep", "fish", "wool", "salt"};
    for (int g = 0; g < 4; g++) due("island(0, 1)", sound(PAIR.replace("plain fish", "plain " + goods[g]), 2).island(0, 1), g);
    for (String word : new String[] {"corn", "sal", "salts", "joker", "rank", ";", "0"}) faultyAt(HEAD + ";island a plain ", word + " rank 1", 1);
  }

  private static void islandsAreUpTo12() {
    String text = WIDE + lines(12, ISLAND);
    for (int p = 0; p < 12; p++) due("card(" + p + ")", sound(text, 12).card(p), p);
    faultyAt(text + ";", "island", 5);
    faultyAt(text + ";", "island m plain fish rank 1 people 1", 5);
    // at the line's first word, though its name is told again
    faultyAt(text + ";", "island a", 5);
  }

  private static void islandsAreTwoOrMore() {
    faulty(HEAD, 6, HEAD.length());
    String one = HEAD + ";island a plain fish rank 1 people 1";
    faulty(one, 6, one.length());
    faulty(one + ";family f out;shows 0 a", 6, one.length() + 23);
    faulty(one + "    ", 6, one.length() + 4);
    sound(one + ";island b plain fish rank 1 people 1", 2);
    // the form at the end comes ahead of what lacks there
    faulty(one + ";", 1, one.length() + 1);
    faulty("", 1, 0);
  }

  // ---- families

  private static void familiesAreUpTo10() {
    due("size(5)", sound(PAIR + lines(10, "family f# out"), 2).size(5), 10);
    faultyAt(PAIR + lines(10, "family f# out") + ";", "family", 5);
    faultyAt(PAIR + lines(10, "family f# out") + ";", "family g out", 5);
  }

  private static void cutIs1To11() {
    for (int n = 0; n <= 99; n++) {
      if (n < 1 || n > 11) faultyAt(PAIR + ";family f cut ", "" + n, 4);
      else due("size(5)", sound(PAIR + ";family f cut " + n, 2).size(5), 1);
    }
    String twelve = WIDE + lines(12, ISLAND) + ";family x cut ";
    for (int n = 1; n <= 11; n++) due("planned(0, 1)", sound(twelve + n, 12).planned(0, 1), n);
  }

  private static void moveIsOneOfFour() {
    for (String word : new String[] {"roll", "ou", "outs", "inn", "turns", "family", ";", "1"}) faultyAt(PAIR + ";family f ", word, 1);
    faulty(PAIR + ";family f cut", 1, PAIR.length() + 13);
    faultyAt(PAIR + ";family f cut ", ";", 1);
    faultyAt(PAIR + ";family f turn ", "1", 1);
  }

  // ---- wishes

  private static void wishesAreUpTo6() {
    String four = HEAD + lines(4, ISLAND);
    String six = four + ";wish a b;wish a c;wish a d;wish b c;wish b d;wish c d";
    due("size(6)", sound(six, 4).size(6), 6);
    faultyAt(six + ";", "wish", 5);
    faultyAt(six + ";", "wish a b", 5);
  }

  private static void wishIsOfUnlikeIslands() {
    faultyAt(PAIR + ";wish a ", "a", 3);
    faultyAt(PAIR + ";wish b ", "b", 3);
  }

  private static void wishIsToldOnceInWhateverOrder() {
    faultyAt(PAIR + ";wish a b;wish a ", "b", 3);
    faultyAt(PAIR + ";wish a b;wish b ", "a", 3);
    String four = HEAD + lines(4, ISLAND) + ";wish a b;wish b c;wish c d";
    due("size(6)", sound(four + ";wish d a;wish c a", 4).size(6), 5);
    faultyAt(four + ";wish d ", "c", 3);
    faultyAt(four + ";wish c ", "b", 3);
    faultyAt(four + ";wish b ", "a", 3);
  }

  // ---- shows

  private static void showsAreUpTo6() {
    due("size(7)", sound(PAIR + lines(6, "shows 0 a"), 2).size(7), 6);
    faultyAt(PAIR + lines(6, "shows 0 a") + ";", "shows", 5);
    faultyAt(PAIR + lines(6, "shows 0 a") + ";", "shows 9 z", 5);
  }

  private static void showsAreOfPlacesOfTheSea() {
    for (int wide = 2; wide <= 4; wide++) {
      for (int high = 2; high <= 3; high++) {
        String text = PAIR.replace("wide 2 high 2", "wide " + wide + " high " + high) + ";shows ";
        sound(text + "0 a", 2);
        // a place without a card is a place of the sea, too
        sound(text + (wide * high - 1) + " a", 2);
        faultyAt(text, wide * high + " a", 4);
        faultyAt(text, "99 a", 4);
      }
    }
  }

  // ---- names

  private static void namesAreNoWordsOfLines() {
    for (String word : new String[] {"sea", "island", "family", "wish", "shows"}) {
      faultyAt(HEAD + ";island ", word + " plain fish rank 1 people 1", 1);
      faultyAt(PAIR + ";family ", word + " out", 1);
      faultyAt(PAIR + ";wish ", word + " a", 1);
      faultyAt(PAIR + ";wish a ", word, 1);
      faultyAt(PAIR + ";shows 0 ", word, 1);
    }
  }

  private static void namesMayBeAnyOtherWords() {
    String[] words = {"wide", "high", "trumps", "sheep", "fish", "wool", "salt", "calm", "tide", "plain", "marked", "joker", "rank", "people", "out", "in", "turn", "cut", "seas", "show", "islan"};
    for (String word : words) {
      sound(HEAD + ";island " + word + " plain fish rank 1 people 1;island z plain fish rank 1 people 1;wish z " + word + ";shows 0 " + word, 2);
      sound(PAIR + ";family " + word + " " + "cut 3", 2);
    }
  }

  private static void namesAreToldOnce() {
    faultyAt(PAIR + ";island ", "a", 3);
    faultyAt(PAIR + ";island ", "b plain fish rank 1 people 1", 3);
    faultyAt(PAIR + ";family ", "a", 3);
    faultyAt(PAIR + ";family f out;family ", "f", 3);
    faultyAt(PAIR + ";family f out;island ", "f", 3);
    faultyAt(WIDE + lines(12, ISLAND) + ";family ", "l", 3);
    faultyAt(PAIR + lines(9, "family f# out") + ";family ", "fi", 3);
  }

  private static void namesAreToldAheadOfTheirUse() {
    faultyAt(PAIR + ";wish a ", "c;island c plain fish rank 1 people 1", 2);
    faultyAt(PAIR + ";wish ", "c a;island c plain fish rank 1 people 1", 2);
    faultyAt(PAIR + ";shows 0 ", "c;island c plain fish rank 1 people 1", 2);
    sound(PAIR + ";island c plain fish rank 1 people 1;wish a c;shows 0 c", 3);
    faultyAt(HEAD + ";wish ", "a b", 2);
  }

  private static void namesOfFamiliesAreOfAnotherSort() {
    faultyAt(PAIR + ";family f out;wish ", "f a", 2);
    faultyAt(PAIR + ";family f out;wish a ", "f", 2);
    faultyAt(PAIR + ";family f out;shows 0 ", "f", 2);
    // not told and the same: the first one is the fault
    faultyAt(PAIR + ";wish ", "c c", 2);
  }

  private static void namesOfAFaultyTextAreForgotten() {
    DealtSea x = new DealtSea();
    tell(x, PAIR + ";family f out;shows 99 a");
    due("the same names again", tell(x, PAIR + ";family f out"), 2);
    tell(x, PAIR + ";wish a ");
    due("names of a faulty text", tell(x, HEAD + ";wish a b"), -1);
    due("fault()", x.fault(), 2);
  }

  private static void namesOfAFullSea() {
    String families = lines(10, "family f# out");
    String full = WIDE + families + lines(12, ISLAND);
    due("size(6)", sound(full + ";wish a l;wish k l", 12).size(6), 2);
    due("size(7)", sound(full + ";shows 11 l", 12).size(7), 1);
    String turned = WIDE + lines(12, ISLAND) + lines(9, "family f# out");
    faultyAt(turned + ";family ", "l", 3);
    faultyAt(turned + ";family fj out;wish l ", "fj", 2);
    faultyAt(turned + ";family fj out;wish l ", "fk", 2);
  }

  /** The word ahead must not stand for one that lacks. */
  private static void aNameIsNoKindAndNoMove() {
    for (String token : new String[] {"3", ";", "!"}) {
      faultyAt(HEAD + ";island plain ", token, 1);
      faultyAt(HEAD + ";island joker ", token, 1);
      faultyAt(PAIR + ";family out ", token, 1);
      faultyAt(PAIR + ";family cut ", token, 1);
    }
    faulty(HEAD + ";island plain", 1, HEAD.length() + 13);
    faulty(PAIR + ";family out", 1, PAIR.length() + 11);
    faulty(PAIR + ";family cut", 1, PAIR.length() + 11);
  }

  // ---- faults

  private static void theFirstFaultFromTheLeft() {
    faultyAt("sea wide ", "1 high 9 trumps corn wild;;", 4);
    faultyAt(HEAD + ";", "sea wide 1", 3);
    faultyAt(PAIR + ";shows ", "9 zzz", 4);
    faultyAt(PAIR + ";wish ", "zz zz", 2);
    faultyAt(PAIR + ";island ", "a big", 3);
    faultyAt(PAIR + ";family a".substring(0, 8), "a roll", 3);
    faultyAt(PAIR + ";family f cut ", "0 !", 4);
    faultyAt(PAIR + ";wish a ", "a !", 3);
    faultyAt(PAIR, "! ;sea", 1);
  }

  private static void faultIsOfTheLatestSeaNotRefusedBy2() {
    DealtSea x = new DealtSea();
    due("fault() of a new object", x.fault(), 0);
    due("where() of a new object", x.where(), -1);
    x.sea(5);
    due("fault() behind a refusal by 2", x.fault(), 0);
    tell(x, "sea wide 1");
    due("fault()", x.fault(), 4);
    x.sea(-1);
    due("fault() behind a refusal by 2", x.fault(), 4);
    due("where() behind a refusal by 2", x.where(), -1);
    x.trades();
    due("fault() behind other calls", x.fault(), 4);
    tell(x, "island");
    due("fault()", x.fault(), 6);
    tell(x, PAIR);
    due("fault() without one", x.fault(), 0);
    x.sea(-1);
    due("fault() behind a refusal by 2", x.fault(), 0);
    tell(x, PAIR + ";wish a a");
    due("fault()", x.fault(), 3);
  }

  private static void whereIsOfTheLatestCallThatMayBeRefused() {
    DealtSea x = sound(PAIR, 2);
    tell(x, "sea wide 1");
    due("where()", x.where(), 9);
    due("where() again", x.where(), 9);
    x.fault();
    x.size(3);
    x.trouble();
    x.feed(1, 1, 1, 1, 1);
    due("where() behind calls that can't be refused by a number", x.where(), 9);
    try { x.led(0); } catch (java.util.NoSuchElementException e) { due("where() behind led", x.where(), 9); }
    x.card(0);
    due("where() behind a call that wasn't refused", x.where(), -1);
    x.sea(0);
    due("where()", x.where(), 0);
    x.card(2);
    due("where() behind a call that was refused by 1", x.where(), -1);
    due("trouble()", x.trouble(), 1);
  }

  private static void theOldPlaceDoesNotComeAgain() {
    DealtSea x = new DealtSea();
    tell(x, "sea wide 1");
    x.undo();
    due("where() behind undo() refused by 6", x.where(), -1);
    due("fault()", x.fault(), 4);
    tell(x, "sea");
    due("where()", x.where(), 3);
  }

  public static void main(String[] args) throws IllegalAccessException, InvocationTargetException {
    int edges = 0;
    for (Method m : TextEdgesTest.class.getDeclaredMethods()) {
      if (m.getParameterCount() > 0 || m.getReturnType() != void.class || !Modifier.isStatic(m.getModifiers())) continue;
      edge = m.getName();
      m.invoke(null);
      edges++;
    }
    System.out.println(wrong == 0 ? edges + " edges of the text: all answers are as due" : wrong + " answers are not as due");
    if (wrong != 0 || edges < 40) System.exit(1);
  }
}
