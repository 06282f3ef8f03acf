import java.util.Arrays;
import java.util.NoSuchElementException;

/** A sea of islands that are dealt like cards. */
public final class DealtSea {
    public static final int NONE = -1;

    /** An answer, no refusal: there is no such journey, row of moves, rest; or the island is palmed. */
    private static final int NEVER = -2;
    private static final int NO_GAIN = -1000;

    private static final int MOST_BYTES = 900;
    private static final int FED_BYTES = 20;
    private static final int MOST_CARDS = 12;
    private static final int FEWEST_ISLANDS = 2;
    private static final int MOST_FAMILIES = 10;
    private static final int MOST_WISHES = 6;
    private static final int MOST_SHOWS = 6;
    private static final int MOST_MOVES = 14;
    private static final int MOST_ACTS = 16;
    private static final int MOST_IMAGES = 3;
    private static final int MOST_FITTED = 3;
    private static final int MOST_CAN = 12;
    private static final int MOST_ODDS = 8;
    private static final int MOST_YEARS = 50;
    private static final int HIGHEST_SEED = 65536;
    private static final int HIGHEST_RANK = 9;
    private static final int WAR_APART = 5;
    private static final int GOODS_THERE_ARE = 4;
    /** No row of twelve cards has an order above 60. */
    private static final int ORDER_BOUND = 1000;

    private static final int OUT = 0;
    private static final int IN = 1;
    private static final int TURN = 2;

    private static final int MARKED = 1;
    private static final int JOKER = 2;

    private static final int FINE = 0;
    private static final int NO_SUCH = 1;
    private static final int WRONG_NUMBER = 2;
    private static final int NO_ROOM = 3;
    private static final int FAULTY = 4;
    private static final int NOT_SO = 5;
    private static final int NOTHING = 6;

    private static final int YEAR_TRADES = 0;
    private static final int YEAR_WISHES = 1;
    private static final int YEAR_IN_SEA = 2;

    private static final String LINES = "sea island family wish shows";
    private static final String GOODS = "sheep fish wool salt";
    private static final String KINDS = "plain marked joker";
    private static final String WATERS = "calm tide";
    private static final String MOVES = "out in turn cut";

    private final Reader reader = new Reader();
    /** Without a SEA it tells of no islands. */
    private Told told = new Told();
    private final Deck deck = new Deck();
    private final Deck trial = new Deck();
    private final Chart chart = new Chart();
    private final Search search = new Search();
    private final Chances chances = new Chances();
    private final Game game = new Game();
    private final Shelf acts = new Shelf(MOST_ACTS);
    private final Shelf images = new Shelf(MOST_IMAGES);
    private int trouble = FINE;
    private int fault = 0;
    private int faultPlace = NONE;

    public DealtSea() {
    }

    // ---- the sea

    public int feed(int a, int b, int c, int d, int e) {
        if (reader.fed + FED_BYTES > MOST_BYTES) {
            return NONE;
        }
        reader.lengthen(a);
        reader.lengthen(b);
        reader.lengthen(c);
        reader.lengthen(d);
        reader.lengthen(e);
        return reader.fed;
    }

    public int sea(int n) {
        if (n < 0 || n > reader.fed) {
            return refuse(WRONG_NUMBER);
        }
        fault = reader.readText(n);
        if (fault != 0) {
            faultPlace = reader.place();
            return refuse(FAULTY);
        }
        told = reader.handOver(told);
        deck.order(told.islands);
        acts.empty();
        images.empty();
        return answer(told.islands);
    }

    public int fault() {
        return fault;
    }

    public int where() {
        return trouble == FAULTY ? faultPlace : NONE;
    }

    // ---- now

    public int island(int i, int what) {
        if (!isIsland(i)) {
            return refuse(NO_SUCH);
        }
        switch (what) {
            case 0:
                return answer(look(told.kinds, i));
            case 1:
                return answer(look(told.goods, i));
            case 2:
                return answer(look(told.ranks, i));
            case 3:
                return answer(look(told.persons, i));
            case 4:
                return answer(i == deck.palmed ? NEVER : deck.placeOf(i));
            default:
                return refuse(NO_SUCH);
        }
    }

    public int card(int place) {
        return isPlace(place) ? answer(deck.cardAt(place)) : refuse(NO_SUCH);
    }

    public int beside(int i) {
        return isIsland(i) ? answer(chartOf(deck).mates(i)) : refuse(NO_SUCH);
    }

    public int trade(int i, int j) {
        if (!isIsland(i) || !isIsland(j) || i == j) {
            return refuse(NO_SUCH);
        }
        return answer(chartOf(deck).touching(i, j) ? told.worth(i, j) : 0);
    }

    public int trades() {
        return hasSea() ? answer(chartOf(deck).allTrades()) : refuse(NO_SUCH);
    }

    public int wars() {
        return hasSea() ? answer(chartOf(deck).countWars()) : refuse(NO_SUCH);
    }

    public int run() {
        return hasSea() ? answer(chartOf(deck).longestRun()) : refuse(NO_SUCH);
    }

    public int runAt(int i) {
        if (!hasSea() || i < 0 || i >= chartOf(deck).longestRun()) {
            return refuse(NO_SUCH);
        }
        return answer(chartOf(deck).runIsland(i));
    }

    public int journey(int i, int j) {
        if (!isIsland(i) || !isIsland(j)) {
            return refuse(NO_SUCH);
        }
        Chart now = chartOf(deck);
        return answer(now.bridges(i, now.placeBit(j)));
    }

    public int wishes() {
        return hasSea() ? answer(chartOf(deck).countWishes()) : refuse(NO_SUCH);
    }

    public int crowd() {
        return hasSea() ? answer(chartOf(deck).mostPeople()) : refuse(NO_SUCH);
    }

    public int nearest(int i, int good) {
        if (!isIsland(i) || !isGood(good)) {
            return refuse(NO_SUCH);
        }
        Chart now = chartOf(deck);
        return answer(now.bridges(i, now.placesOfGood(good) & ~now.placeBit(i)));
    }

    public int people(int good) {
        if (!hasSea() || !isGood(good)) {
            return refuse(NO_SUCH);
        }
        Chart now = chartOf(deck);
        return answer(now.personsAt(now.placesOfGood(good)));
    }

    // ---- the plan

    public int planned(int place, int k) {
        if (place < 0 || place >= told.islands) {
            return refuse(NO_SUCH);
        }
        if (k < 0 || k > told.families) {
            return refuse(WRONG_NUMBER);
        }
        makePlan(k);
        return answer(trial.cardAt(place));
    }

    public int plannedTrades(int k) {
        if (!hasSea()) {
            return refuse(NO_SUCH);
        }
        if (k < 0 || k > told.families) {
            return refuse(WRONG_NUMBER);
        }
        makePlan(k);
        return answer(chartOf(trial).allTrades());
    }

    public int judge() {
        if (!hasSea()) {
            return refuse(NO_SUCH);
        }
        makePlan(told.families);
        for (int s = 0; s < told.shows; s++) {
            if (trial.cardAt(look(told.showPlaces, s)) != look(told.showIslands, s)) {
                return answer(s);
            }
        }
        return answer(NEVER);
    }

    public int fits(int k) {
        if (!hasSea()) {
            return refuse(NO_SUCH);
        }
        if (k < 0 || k > MOST_FITTED) {
            return refuse(WRONG_NUMBER);
        }
        makePlan(told.families);
        int rows = rowsOfMoves(k);
        int found = 0;
        for (int row = 0; row < rows; row++) {
            if (rowFits(row, k)) {
                found++;
            }
        }
        return answer(found);
    }

    public int fitAt(int k, int i) {
        if (!hasSea()) {
            return refuse(NO_SUCH);
        }
        if (k < 0 || k > MOST_FITTED) {
            return refuse(WRONG_NUMBER);
        }
        if (i < 0 || i >= k) {
            return refuse(NO_SUCH);
        }
        makePlan(told.families);
        int rows = rowsOfMoves(k);
        for (int row = 0; row < rows; row++) {
            if (rowFits(row, k)) {
                return answer(moveOfRow(row, k - 1 - i));
            }
        }
        return answer(NEVER);
    }

    public int again() {
        if (!hasSea()) {
            return refuse(NO_SUCH);
        }
        trial.order(told.islands);
        for (int times = 1; times <= ORDER_BOUND; times++) {
            addPlan(told.families);
            if (trial.isOrdered()) {
                return answer(times);
            }
        }
        return answer(NEVER);
    }

    public int cycle(int move) {
        if (!isMove(move)) {
            return refuse(NO_SUCH);
        }
        trial.order(deck.count);
        for (int times = 1; times <= ORDER_BOUND; times++) {
            trial.makeMove(move);
            if (trial.isOrdered()) {
                return answer(times);
            }
        }
        return answer(NEVER);
    }

    // ---- where it can be

    public int can(int i, int k) {
        if (!isInDeck(i)) {
            return refuse(NO_SUCH);
        }
        if (k < 0 || k > MOST_CAN) {
            return refuse(WRONG_NUMBER);
        }
        int places = 1 << deck.placeOf(i);
        for (int time = 0; time < k; time++) {
            places = placesNext(places);
        }
        return answer(places);
    }

    public long odds(int i, int k, int place, boolean lower) {
        if (!isInDeck(i) || !isPlace(place)) {
            return refuse(NO_SUCH);
        }
        if (k < 0 || k > MOST_ODDS) {
            return refuse(WRONG_NUMBER);
        }
        reckonChances(i, k);
        trouble = FINE;
        return lowestTerms(chances.rowsTo(place), chances.rows, lower);
    }

    public long inSea(int i, int k, boolean lower) {
        if (!isInDeck(i)) {
            return refuse(NO_SUCH);
        }
        if (k < 0 || k > MOST_ODDS) {
            return refuse(WRONG_NUMBER);
        }
        reckonChances(i, k);
        trouble = FINE;
        return lowestTerms(chances.rowsAhead(told.room()), chances.rows, lower);
    }

    public int alike(int i, int percent) {
        if (!isInDeck(i)) {
            return refuse(NO_SUCH);
        }
        if (percent < 0 || percent > 100) {
            return refuse(WRONG_NUMBER);
        }
        chances.begin(deck.placeOf(i), deck.count);
        for (int moves = 0; moves <= MOST_ODDS; moves++) {
            if (chances.difference() * 100 <= chances.rows * percent) {
                return answer(moves);
            }
            chances.goOn();
        }
        return answer(NEVER);
    }

    // ---- moves that bring it there

    public int fewest(int i, int place) {
        if (!isInDeck(i) || !isPlace(place)) {
            return refuse(NO_SUCH);
        }
        search.bringTo(place, deck.placeOf(i), deck.count);
        return answer(search.length());
    }

    public int moveAt(int i, int place, int k) {
        if (!isInDeck(i) || !isPlace(place)) {
            return refuse(NO_SUCH);
        }
        search.bringTo(place, deck.placeOf(i), deck.count);
        return foundMove(k);
    }

    public int together(int i, int j) {
        if (!isInDeck(i) || !isInDeck(j) || i == j) {
            return refuse(NO_SUCH);
        }
        search.bringTogether(told, deck.placeOf(i), deck.placeOf(j), deck.count);
        return answer(search.length());
    }

    public int togetherAt(int i, int j, int k) {
        if (!isInDeck(i) || !isInDeck(j) || i == j) {
            return refuse(NO_SUCH);
        }
        search.bringTogether(told, deck.placeOf(i), deck.placeOf(j), deck.count);
        return foundMove(k);
    }

    public int three(int i, int j, int k) {
        if (!isInDeck(i) || !isInDeck(j) || !isInDeck(k) || i == j || i == k || j == k) {
            return refuse(NO_SUCH);
        }
        search.bringThree(told, deck.placeOf(i), deck.placeOf(j), deck.placeOf(k), deck.count);
        return answer(search.length());
    }

    // ---- what is best

    public int best() {
        return hasSea() ? answer(bestMove()) : refuse(NO_SUCH);
    }

    public int bestTrades() {
        return hasSea() ? answer(tradesBy(bestMove())) : refuse(NO_SUCH);
    }

    public int bestTwo() {
        if (!hasSea()) {
            return refuse(NO_SUCH);
        }
        int most = NONE;
        int pair = 0;
        for (int one = 0; one < movesOf(deck.count); one++) {
            for (int two = 0; two < movesOf(deck.count); two++) {
                makeTwo(one, two);
                int sum = chartOf(trial).allTrades();
                if (sum > most) {
                    most = sum;
                    pair = 100 * one + two;
                }
            }
        }
        return answer(pair);
    }

    public int exchange() {
        if (!hasSea()) {
            return refuse(NO_SUCH);
        }
        int most = NONE;
        int pair = 0;
        for (int p = 0; p < deck.count; p++) {
            for (int q = p + 1; q < deck.count; q++) {
                trial.take(deck);
                trial.swap(p, q);
                int sum = chartOf(trial).allTrades();
                if (sum > most) {
                    most = sum;
                    pair = 100 * p + q;
                }
            }
        }
        return answer(pair);
    }

    // ---- two dealers

    public int gain(int good, int other, int move, int second) {
        if (!isGood(good) || !isGood(other) || !isMove(move) || !isMove(second)) {
            trouble = NO_SUCH;
            return NO_GAIN;
        }
        return answer(gainBy(good, other, move, second));
    }

    public int rests(int good, int other) {
        if (!hasSea() || !isGood(good) || !isGood(other)) {
            return refuse(NO_SUCH);
        }
        playGame(good, other);
        return answer(game.countRests());
    }

    public int rest(int good, int other) {
        if (!hasSea() || !isGood(good) || !isGood(other)) {
            return refuse(NO_SUCH);
        }
        playGame(good, other);
        return answer(game.firstRest());
    }

    // ---- decades

    public int decade(int seed, int n) {
        if (!hasSea()) {
            return refuse(NO_SUCH);
        }
        return isDecade(seed, n) ? answer(sumYears(YEAR_TRADES, NONE, seed, n)) : refuse(WRONG_NUMBER);
    }

    public int decadeWishes(int seed, int n) {
        if (!hasSea()) {
            return refuse(NO_SUCH);
        }
        return isDecade(seed, n) ? answer(sumYears(YEAR_WISHES, NONE, seed, n)) : refuse(WRONG_NUMBER);
    }

    public int decadeOf(int i, int seed, int n) {
        if (!isIsland(i)) {
            return refuse(NO_SUCH);
        }
        return isDecade(seed, n) ? answer(sumYears(YEAR_IN_SEA, i, seed, n)) : refuse(WRONG_NUMBER);
    }

    // ---- acts

    public int deal(int move) {
        if (!isMove(move)) {
            return refuse(NO_SUCH);
        }
        acts.pushOver(deck);
        deck.makeMove(move);
        return answer(chartOf(deck).allTrades());
    }

    public int palm(int place) {
        if (!isPlace(place)) {
            return refuse(NO_SUCH);
        }
        if (deck.palmed != NONE || deck.count <= FEWEST_ISLANDS) {
            return refuse(NOT_SO);
        }
        acts.pushOver(deck);
        deck.takeOut(place);
        return answer(deck.palmed);
    }

    public boolean lay() {
        if (!hasSea()) {
            trouble = NO_SUCH;
            return false;
        }
        if (deck.palmed == NONE) {
            trouble = NOTHING;
            return false;
        }
        acts.pushOver(deck);
        deck.putUnder();
        trouble = FINE;
        return true;
    }

    public boolean undo() {
        if (acts.kept == 0) {
            trouble = NOTHING;
            return false;
        }
        acts.popInto(deck);
        trouble = FINE;
        return true;
    }

    public int image() {
        if (!hasSea()) {
            return refuse(NO_SUCH);
        }
        if (images.kept >= MOST_IMAGES) {
            return refuse(NO_ROOM);
        }
        images.pushOver(deck);
        return answer(images.kept - 1);
    }

    public boolean back(int image) {
        if (image < 0 || image >= images.kept) {
            trouble = NO_SUCH;
            return false;
        }
        images.readInto(image, deck);
        acts.empty();
        trouble = FINE;
        return true;
    }

    // ---- what is told

    public int led(int i) throws NoSuchElementException {
        int found = 0;
        for (int island = 0; island < told.islands; island++) {
            if (deck.placeOf(island) >= told.room()) {
                if (found == i) {
                    return island;
                }
                found++;
            }
        }
        throw new NoSuchElementException();
    }

    public int size(int what) {
        switch (what) {
            case 0:
                return told.wide;
            case 1:
                return told.high;
            case 2:
                return told.trumps;
            case 3:
                return told.tide;
            case 4:
                return told.islands;
            case 5:
                return told.families;
            case 6:
                return told.wishPairs;
            case 7:
                return told.shows;
            case 8:
                return deck.count;
            case 9:
                return movesOf(deck.count);
            case 10:
                return acts.kept;
            case 11:
                return images.kept;
            case 12:
                return reader.fed;
            default:
                return NONE;
        }
    }

    public int trouble() {
        return trouble;
    }

    // ---- what calls share

    private int refuse(int number) {
        trouble = number;
        return NONE;
    }

    private int answer(int value) {
        trouble = FINE;
        return value;
    }

    private boolean hasSea() {
        return told.islands > 0;
    }

    private boolean isIsland(int i) {
        return i >= 0 && i < told.islands;
    }

    private boolean isInDeck(int i) {
        return isIsland(i) && i != deck.palmed;
    }

    private boolean isPlace(int place) {
        return place >= 0 && place < deck.count;
    }

    private boolean isMove(int move) {
        return move >= 0 && move < movesOf(deck.count);
    }

    private static boolean isGood(int good) {
        return good >= 0 && good < GOODS_THERE_ARE;
    }

    private static boolean isDecade(int seed, int n) {
        return seed >= 0 && seed <= HIGHEST_SEED && n >= 0 && n <= MOST_YEARS;
    }

    private Chart chartOf(Deck cards) {
        chart.show(told, cards);
        return chart;
    }

    /** The trial deck is the deck as told behind k moves of the plan. */
    private void makePlan(int k) {
        trial.order(told.islands);
        addPlan(k);
    }

    private void addPlan(int k) {
        for (int m = 0; m < k; m++) {
            trial.makeMove(look(told.plan, m));
        }
    }

    private int rowsOfMoves(int k) {
        int rows = 1;
        for (int m = 0; m < k; m++) {
            rows *= movesOf(told.islands);
        }
        return rows;
    }

    /** A row of moves is a number whose digits are the moves: so rows count up in their order. */
    private boolean rowFits(int row, int k) {
        for (int s = 0; s < told.shows; s++) {
            int place = trial.placeOf(look(told.showIslands, s));
            for (int behind = k - 1; behind >= 0; behind--) {
                place = goesTo(moveOfRow(row, behind), place, told.islands);
            }
            if (place != look(told.showPlaces, s)) {
                return false;
            }
        }
        return true;
    }

    /** The move that has so many behind it in its row. */
    private int moveOfRow(int row, int behind) {
        int moves = movesOf(told.islands);
        if (moves < 1) {
            return NEVER;
        }
        int left = row;
        for (int m = 0; m < behind; m++) {
            left /= moves;
        }
        return left % moves;
    }

    private int placesNext(int places) {
        int next = 0;
        for (int p = 0; p < deck.count; p++) {
            if ((places >> p & 1) == 1) {
                for (int move = 0; move < movesOf(deck.count); move++) {
                    next |= 1 << goesTo(move, p, deck.count);
                }
            }
        }
        return next;
    }

    private void reckonChances(int i, int k) {
        chances.begin(deck.placeOf(i), deck.count);
        for (int time = 0; time < k; time++) {
            chances.goOn();
        }
    }

    private int foundMove(int k) {
        return k >= 0 && k < search.length() ? answer(search.moveOf(k)) : refuse(NO_SUCH);
    }

    private int tradesBy(int move) {
        trial.take(deck);
        trial.makeMove(move);
        return chartOf(trial).allTrades();
    }

    private int bestMove() {
        int most = NONE;
        int first = 0;
        for (int move = 0; move < movesOf(deck.count); move++) {
            int sum = tradesBy(move);
            if (sum > most) {
                most = sum;
                first = move;
            }
        }
        return first;
    }

    private void makeTwo(int one, int two) {
        trial.take(deck);
        trial.makeMove(one);
        trial.makeMove(two);
    }

    private int gainBy(int good, int other, int move, int second) {
        makeTwo(move, second);
        return chartOf(trial).tradesOf(good) - chartOf(trial).tradesOf(other);
    }

    private void playGame(int good, int other) {
        game.moves = movesOf(deck.count);
        for (int one = 0; one < game.moves; one++) {
            for (int two = 0; two < game.moves; two++) {
                game.setGain(one, two, gainBy(good, other, one, two));
            }
        }
    }

    private int sumYears(int what, int i, int seed, int n) {
        int drawn = seed;
        int sum = 0;
        trial.take(deck);
        int moves = movesOf(trial.count);
        for (int year = 0; year < n && moves > 0; year++) {
            for (int m = 0; m < told.families; m++) {
                drawn = (75 * drawn + 74) % 65537;
                trial.makeMove(drawn % moves);
            }
            sum += yearOf(what, i);
        }
        return sum;
    }

    private int yearOf(int what, int i) {
        Chart then = chartOf(trial);
        if (what == YEAR_TRADES) {
            return then.allTrades();
        }
        if (what == YEAR_WISHES) {
            return then.countWishes();
        }
        return then.placeBit(i) != 0 ? 1 : 0;
    }

    /** What a row holds at an index, NONE outside of it. */
    private static int look(int[] row, int index) {
        return index >= 0 && index < row.length ? row[index] : NONE;
    }

    private static void put(int[] row, int index, int value) {
        if (index >= 0 && index < row.length) {
            row[index] = value;
        }
    }

    private static int movesOf(int cards) {
        return cards > 0 ? TURN + cards : 0;
    }

    /** Where a move brings the card at a place of a deck of so many. */
    private static int goesTo(int move, int place, int count) {
        if (move == OUT) {
            int upper = (count + 1) / 2;
            return place < upper ? 2 * place : 2 * (place - upper) + 1;
        }
        if (move == IN) {
            int upper = count / 2;
            return place < upper ? 2 * place + 1 : 2 * (place - upper);
        }
        if (move == TURN || count < 1) {
            return count - 1 - place;
        }
        return Math.floorMod(place - (move - TURN), count);
    }

    private static long lowestTerms(long upper, long whole, boolean lower) {
        long divisor = greatestDivisor(upper, whole);
        if (divisor < 1) {
            return 0;
        }
        return (lower ? whole : upper) / divisor;
    }

    private static long greatestDivisor(long a, long b) {
        long greater = b;
        long lesser = a;
        // Euclid's steps at least halve the number every second time
        for (int step = 0; step < 200 && lesser != 0; step++) {
            long left = greater % lesser;
            greater = lesser;
            lesser = left;
        }
        return greater;
    }

    /** Words of up to eight letters as numbers, five bits a letter. */
    private static long spell(long ahead, int letter) {
        return ahead * 32 + (letter - 'a' + 1);
    }

    /** Which of the words parted by blanks it is; NONE if it is none of them. */
    private static int choice(String words, long word) {
        int number = 0;
        long spelt = 0;
        for (int c = 0; c <= words.length(); c++) {
            char sign = c < words.length() ? words.charAt(c) : ' ';
            if (sign != ' ') {
                spelt = spell(spelt, sign);
            } else if (spelt == word) {
                return number;
            } else {
                number++;
                spelt = 0;
            }
        }
        return NONE;
    }

    /** A SEA as its text tells it. */
    private static final class Told {
        int wide = 0;
        int high = 0;
        int trumps = 0;
        int tide = 0;
        int islands = 0;
        final int[] kinds = new int[MOST_CARDS];
        final int[] goods = new int[MOST_CARDS];
        final int[] ranks = new int[MOST_CARDS];
        final int[] persons = new int[MOST_CARDS];
        int families = 0;
        final int[] plan = new int[MOST_FAMILIES];
        int wishPairs = 0;
        final int[] wishFirst = new int[MOST_WISHES];
        final int[] wishSecond = new int[MOST_WISHES];
        int shows = 0;
        final int[] showPlaces = new int[MOST_SHOWS];
        final int[] showIslands = new int[MOST_SHOWS];
        /** Of each place of the sea the places beside it, as bits. */
        final int[] near = new int[MOST_CARDS];

        /** The first line tells the rest anew. */
        void forget() {
            islands = 0;
            families = 0;
            wishPairs = 0;
            shows = 0;
        }

        int room() {
            return wide * high;
        }

        void addIsland(int kind, int good, int rank, int dwellers) {
            put(kinds, islands, kind);
            put(goods, islands, good);
            put(ranks, islands, rank);
            put(persons, islands, dwellers);
            islands++;
        }

        void addFamily(int move) {
            put(plan, families, move);
            families++;
        }

        void addWish(int i, int j) {
            put(wishFirst, wishPairs, i);
            put(wishSecond, wishPairs, j);
            wishPairs++;
        }

        void addShows(int place, int i) {
            put(showPlaces, shows, place);
            put(showIslands, shows, i);
            shows++;
        }

        boolean hasWish(int i, int j) {
            for (int w = 0; w < wishPairs; w++) {
                int first = look(wishFirst, w);
                int second = look(wishSecond, w);
                if (first == i && second == j || first == j && second == i) {
                    return true;
                }
            }
            return false;
        }

        /** Reckons who is beside whom once, as every look at the sea asks it. */
        void settle() {
            Arrays.fill(near, 0);
            for (int p = 0; p < room(); p++) {
                for (int q = 0; q < room(); q++) {
                    if (neighbours(p, q)) {
                        put(near, p, look(near, p) | 1 << q);
                    }
                }
            }
        }

        private boolean neighbours(int p, int q) {
            if (wide < 1 || tide == 1 && (isCorner(p) || isCorner(q))) {
                return false;
            }
            return Math.abs(p % wide - q % wide) + Math.abs(p / wide - q / wide) == 1;
        }

        private boolean isCorner(int p) {
            return p == 0 || p == wide - 1 || p == room() - wide || p == room() - 1;
        }

        boolean areNear(int p, int q) {
            return p >= 0 && p < near.length && q >= 0 && q < near.length && (near[p] >> q & 1) == 1;
        }

        boolean isJoker(int i) {
            return look(kinds, i) == JOKER;
        }

        /** TRADE of two islands that are beside each other. */
        int worth(int i, int j) {
            int kind = look(kinds, i);
            int otherKind = look(kinds, j);
            if (kind == JOKER || otherKind == JOKER || look(goods, i) != look(goods, j)) {
                return 0;
            }
            int plain = look(goods, i) == trumps ? 2 : 1;
            return kind == MARKED || otherKind == MARKED ? plain + 1 : plain;
        }
    }

    /** Reads the text of a SEA into a draft, up to its first fault. */
    private static final class Reader {
        private static final int END = 0;
        private static final int WORD = 1;
        private static final int WHOLE = 2;
        private static final int SEMICOLON = 3;
        private static final int BAD = 4;

        private static final int SEA_LINE = 0;
        private static final int ISLAND_LINE = 1;
        private static final int FAMILY_LINE = 2;
        private static final int WISH_LINE = 3;
        private static final int SHOWS_LINE = 4;

        private static final int FORM = 1;
        private static final int UNTOLD = 2;
        private static final int AGAIN = 3;
        private static final int BOUNDS = 4;
        private static final int MANY = 5;
        private static final int LACKS = 6;

        private static final int A_FAMILY = -2;
        private static final int LONGEST_WORD = 8;
        private static final int LONGEST_WHOLE = 2;

        private final byte[] tape = new byte[MOST_BYTES];
        int fed = 0;
        private Told draft = new Told();
        private int end = 0;
        private int at = 0;
        private int next = 0;
        private int token = END;
        private long word = 0;
        private int whole = 0;
        private int flaw = 0;
        private int names = 0;
        private final long[] nameWords = new long[MOST_CARDS + MOST_FAMILIES];
        /** The number of the island that a name is of, or A_FAMILY. */
        private final int[] nameOwners = new int[MOST_CARDS + MOST_FAMILIES];

        /** Four bytes come behind the tape, the highest first. */
        void lengthen(int number) {
            for (int shift = 24; shift >= 0; shift -= 8) {
                if (fed >= 0 && fed < tape.length) {
                    tape[fed] = (byte) (number >> shift);
                    fed++;
                }
            }
        }

        /** Where the fault is, as nothing is read behind it. */
        int place() {
            return at;
        }

        /** What was read comes out; another one comes in to be written over. */
        Told handOver(Told old) {
            Told read = draft;
            draft = old;
            return read;
        }

        /** The first fault of the first n bytes of the tape, which is empty then; 0 without one. */
        int readText(int n) {
            end = Math.min(n, fed);
            fed = 0;
            next = 0;
            flaw = 0;
            names = 0;
            draft.forget();
            advance();
            boolean more = true;
            for (int line = 0; line <= MOST_BYTES && more; line++) {
                readLine(line == 0);
                more = flaw == 0 && goesOn();
            }
            if (flaw == 0 && draft.islands < FEWEST_ISLANDS) {
                blame(LACKS);
            }
            if (flaw == 0) {
                draft.settle();
            }
            return flaw;
        }

        private boolean goesOn() {
            if (token == END) {
                return false;
            }
            if (token != SEMICOLON) {
                blame(FORM);
            }
            advance();
            return flaw == 0;
        }

        private void blame(int number) {
            if (flaw == 0) {
                flaw = number;
            }
        }

        private int byteAt(int index) {
            return index >= 0 && index < end && index < tape.length ? tape[index] : 0;
        }

        private static boolean isLetter(int sign) {
            return sign >= 'a' && sign <= 'z';
        }

        private static boolean isDigit(int sign) {
            return sign >= '0' && sign <= '9';
        }

        /** Goes on to the next token, but never beyond a fault. */
        private void advance() {
            if (flaw != 0) {
                return;
            }
            while (next < end && byteAt(next) == ' ') {
                next++;
            }
            at = next;
            int sign = byteAt(at);
            if (at >= end) {
                token = END;
            } else if (isLetter(sign)) {
                takeWord();
            } else if (isDigit(sign)) {
                takeWhole();
            } else {
                token = sign == ';' ? SEMICOLON : BAD;
                next++;
            }
        }

        private void takeWord() {
            word = 0;
            while (next < end && isLetter(byteAt(next))) {
                word = spell(word, byteAt(next));
                next++;
            }
            token = next - at <= LONGEST_WORD ? WORD : BAD;
        }

        private void takeWhole() {
            whole = 0;
            while (next < end && isDigit(byteAt(next))) {
                whole = whole * 10 + byteAt(next) - '0';
                next++;
            }
            token = next - at <= LONGEST_WHOLE ? WHOLE : BAD;
        }

        private void readLine(boolean first) {
            int sort = token == WORD ? choice(LINES, word) : NONE;
            checkLine(sort, first);
            advance();
            switch (flaw == 0 ? sort : NONE) {
                case SEA_LINE:
                    readSea();
                    break;
                case ISLAND_LINE:
                    readIsland();
                    break;
                case FAMILY_LINE:
                    readFamily();
                    break;
                case WISH_LINE:
                    readWish();
                    break;
                case SHOWS_LINE:
                    readShows();
                    break;
                default:
                    break;
            }
        }

        private void checkLine(int sort, boolean first) {
            if (sort == NONE) {
                blame(FORM);
            } else if (first && sort != SEA_LINE) {
                blame(LACKS);
            } else if (!first && sort == SEA_LINE) {
                blame(AGAIN);
            } else if (isFull(sort)) {
                blame(MANY);
            }
        }

        private boolean isFull(int sort) {
            switch (sort) {
                case ISLAND_LINE:
                    return draft.islands >= MOST_CARDS;
                case FAMILY_LINE:
                    return draft.families >= MOST_FAMILIES;
                case WISH_LINE:
                    return draft.wishPairs >= MOST_WISHES;
                case SHOWS_LINE:
                    return draft.shows >= MOST_SHOWS;
                default:
                    return false;
            }
        }

        private void readSea() {
            readOneOf("wide");
            draft.wide = readWhole(2, 4);
            readOneOf("high");
            draft.high = readWhole(2, 3);
            readOneOf("trumps");
            draft.trumps = readOneOf(GOODS);
            draft.tide = readOneOf(WATERS);
        }

        private void readIsland() {
            tellName(draft.islands);
            int kind = readOneOf(KINDS);
            int good = readOneOf(GOODS);
            readOneOf("rank");
            int rank = readWhole(1, HIGHEST_RANK);
            readOneOf("people");
            int dwellers = readWhole(0, 99);
            if (flaw == 0) {
                draft.addIsland(kind, good, rank, dwellers);
            }
        }

        private void readFamily() {
            tellName(A_FAMILY);
            int move = readOneOf(MOVES);
            if (move > TURN) {
                move = TURN + readWhole(1, MOST_CARDS - 1);
            }
            if (flaw == 0) {
                draft.addFamily(move);
            }
        }

        private void readWish() {
            int first = namedIsland();
            advance();
            int second = namedIsland();
            if (first == second || draft.hasWish(first, second)) {
                blame(AGAIN);
            }
            if (flaw == 0) {
                draft.addWish(first, second);
            }
            advance();
        }

        private void readShows() {
            int place = readWhole(0, draft.room() - 1);
            int i = namedIsland();
            if (flaw == 0) {
                draft.addShows(place, i);
            }
            advance();
        }

        private int readOneOf(String words) {
            int chosen = flaw == 0 && token == WORD ? choice(words, word) : NONE;
            if (chosen == NONE) {
                blame(FORM);
            }
            advance();
            return chosen;
        }

        private int readWhole(int least, int most) {
            int value = whole;
            if (token != WHOLE) {
                blame(FORM);
            } else if (value < least || value > most) {
                blame(BOUNDS);
            }
            advance();
            return value;
        }

        private boolean isAtName() {
            return token == WORD && choice(LINES, word) == NONE;
        }

        /** Whose name the word is; NONE if it isn't told. */
        private int owner() {
            for (int n = 0; n < names && n < nameWords.length; n++) {
                if (nameWords[n] == word) {
                    return look(nameOwners, n);
                }
            }
            return NONE;
        }

        private void tellName(int newOwner) {
            if (!isAtName()) {
                blame(FORM);
            } else if (owner() != NONE) {
                blame(AGAIN);
            } else if (names >= 0 && names < nameWords.length) {
                nameWords[names] = word;
                put(nameOwners, names, newOwner);
                names++;
            }
            advance();
        }

        /** The island whose name stands here; it isn't gone beyond, as a fault may still be at it. */
        private int namedIsland() {
            if (!isAtName()) {
                blame(FORM);
                return NONE;
            }
            int i = owner();
            if (i < 0) {
                blame(UNTOLD);
            }
            return i;
        }
    }

    /** Cards from the top down, and the one that has left them. */
    private static final class Deck {
        private final int[] cards = new int[MOST_CARDS];
        private final int[] moved = new int[MOST_CARDS];
        int count = 0;
        int palmed = NONE;

        void order(int islands) {
            count = islands;
            palmed = NONE;
            for (int p = 0; p < cards.length; p++) {
                cards[p] = p;
            }
        }

        boolean isOrdered() {
            for (int p = 0; p < count; p++) {
                if (look(cards, p) != p) {
                    return false;
                }
            }
            return true;
        }

        void take(Deck other) {
            System.arraycopy(other.cards, 0, cards, 0, MOST_CARDS);
            count = other.count;
            palmed = other.palmed;
        }

        int cardAt(int place) {
            return place < count ? look(cards, place) : NONE;
        }

        /** NONE of a card that is palmed or isn't there. */
        int placeOf(int i) {
            for (int p = 0; p < count; p++) {
                if (look(cards, p) == i) {
                    return p;
                }
            }
            return NONE;
        }

        void makeMove(int move) {
            System.arraycopy(cards, 0, moved, 0, MOST_CARDS);
            for (int p = 0; p < count; p++) {
                put(cards, goesTo(move, p, count), look(moved, p));
            }
        }

        void swap(int p, int q) {
            int card = look(cards, p);
            put(cards, p, look(cards, q));
            put(cards, q, card);
        }

        void takeOut(int place) {
            palmed = cardAt(place);
            for (int p = place + 1; p < count; p++) {
                put(cards, p - 1, look(cards, p));
            }
            count--;
        }

        void putUnder() {
            put(cards, count, palmed);
            count++;
            palmed = NONE;
        }

        /** A row keeps its cards, how many they are, and the palmed one. */
        void writeTo(int[] rows, int start) {
            for (int p = 0; p < MOST_CARDS; p++) {
                put(rows, start + p, look(cards, p));
            }
            put(rows, start + MOST_CARDS, count);
            put(rows, start + MOST_CARDS + 1, palmed);
        }

        void readFrom(int[] rows, int start) {
            for (int p = 0; p < MOST_CARDS; p++) {
                put(cards, p, look(rows, start + p));
            }
            count = look(rows, start + MOST_CARDS);
            palmed = look(rows, start + MOST_CARDS + 1);
        }
    }

    /** Keeps the latest so many decks. */
    private static final class Shelf {
        private static final int ROW = MOST_CARDS + 2;

        private final int slots;
        private final int[] rows;
        private int first = 0;
        int kept = 0;

        Shelf(int slots) {
            this.slots = Math.max(slots, 1);
            this.rows = new int[this.slots * ROW];
        }

        void empty() {
            first = 0;
            kept = 0;
        }

        private int startOf(int number) {
            return slots < 1 ? 0 : (first + number) % slots * ROW;
        }

        /** The oldest one goes if there is no room. */
        void pushOver(Deck deck) {
            deck.writeTo(rows, startOf(kept));
            if (kept < slots) {
                kept++;
            } else {
                first = first + 1 < slots ? first + 1 : 0;
            }
        }

        void popInto(Deck deck) {
            if (kept > 0) {
                kept--;
                readInto(kept, deck);
            }
        }

        void readInto(int number, Deck deck) {
            deck.readFrom(rows, startOf(number));
        }
    }

    /** What is to be seen of a deck that is laid out in a sea. */
    private static final class Chart {
        private static final int ALL_GOODS = -1;

        private Told told = new Told();
        /** The islands that lie in the sea, by places. */
        private final int[] islands = new int[MOST_CARDS];
        private int laid = 0;
        /** Of each island the longest run that begins with it. */
        private final int[] runs = new int[MOST_CARDS];

        void show(Told sea, Deck deck) {
            told = sea;
            laid = Math.min(sea.room(), deck.count);
            for (int p = 0; p < laid; p++) {
                put(islands, p, deck.cardAt(p));
            }
        }

        private int islandAt(int place) {
            return place < laid ? look(islands, place) : NONE;
        }

        private boolean isJokerAt(int place) {
            return told.isJoker(islandAt(place));
        }

        /** The place of an island in the sea as a bit; 0 if it doesn't lie there. */
        int placeBit(int i) {
            for (int p = 0; p < laid; p++) {
                if (look(islands, p) == i) {
                    return 1 << p;
                }
            }
            return 0;
        }

        /** All places beside one of these. */
        private int besidePlaces(int places) {
            int found = 0;
            for (int p = 0; p < laid; p++) {
                if ((places >> p & 1) == 1) {
                    found |= look(told.near, p);
                }
            }
            return found & (1 << laid) - 1;
        }

        int mates(int i) {
            int places = besidePlaces(placeBit(i));
            int found = 0;
            for (int p = 0; p < laid; p++) {
                if ((places >> p & 1) == 1) {
                    found |= 1 << islandAt(p);
                }
            }
            return found;
        }

        boolean touching(int i, int j) {
            return (besidePlaces(placeBit(i)) & placeBit(j)) != 0;
        }

        int allTrades() {
            return tradesOf(ALL_GOODS);
        }

        int tradesOf(int good) {
            int sum = 0;
            for (int p = 0; p < laid; p++) {
                if (good == ALL_GOODS || look(told.goods, islandAt(p)) == good) {
                    sum += tradeBetween(p, p + 1) + tradeBetween(p, p + told.wide);
                }
            }
            return sum;
        }

        private int tradeBetween(int p, int q) {
            if (q >= laid || !told.areNear(p, q)) {
                return 0;
            }
            return told.worth(islandAt(p), islandAt(q));
        }

        int countWars() {
            int found = 0;
            for (int p = 0; p < laid; p++) {
                if (isWar(p, p + 1)) {
                    found++;
                }
                if (isWar(p, p + told.wide)) {
                    found++;
                }
            }
            return found;
        }

        private boolean isWar(int p, int q) {
            if (q >= laid || !told.areNear(p, q) || isJokerAt(p) || isJokerAt(q)) {
                return false;
            }
            return Math.abs(look(told.ranks, islandAt(p)) - look(told.ranks, islandAt(q))) >= WAR_APART;
        }

        int countWishes() {
            int found = 0;
            for (int w = 0; w < told.wishPairs; w++) {
                if (touching(look(told.wishFirst, w), look(told.wishSecond, w))) {
                    found++;
                }
            }
            return found;
        }

        int longestRun() {
            Arrays.fill(runs, 0);
            int longest = 0;
            // from the highest rank down, as a run goes on with the rank above
            for (int rank = HIGHEST_RANK; rank >= 1; rank--) {
                for (int p = 0; p < laid; p++) {
                    if (isOfRank(islandAt(p), rank)) {
                        int length = 1 + longestBehind(islandAt(p));
                        put(runs, islandAt(p), length);
                        longest = Math.max(longest, length);
                    }
                }
            }
            return longest;
        }

        private boolean isOfRank(int i, int rank) {
            return !told.isJoker(i) && look(told.ranks, i) == rank;
        }

        private int rankAbove(int i) {
            return look(told.ranks, i) + 1;
        }

        private int longestBehind(int i) {
            int mates = mates(i);
            int longest = 0;
            for (int j = 0; j < MOST_CARDS; j++) {
                if ((mates >> j & 1) == 1 && isOfRank(j, rankAbove(i))) {
                    longest = Math.max(longest, look(runs, j));
                }
            }
            return longest;
        }

        /** The first island, by numbers, goes with each step: so the whole run is the first one. */
        int runIsland(int k) {
            int length = longestRun();
            int i = firstOfLength(length, NONE);
            for (int step = 0; step < k; step++) {
                length--;
                i = firstOfLength(length, i);
            }
            return i;
        }

        private int firstOfLength(int length, int ahead) {
            int mates = ahead == NONE ? 0 : mates(ahead);
            for (int j = 0; j < MOST_CARDS; j++) {
                boolean follows = (mates >> j & 1) == 1 && isOfRank(j, rankAbove(ahead));
                if (look(runs, j) == length && (ahead == NONE || follows)) {
                    return j;
                }
            }
            return NONE;
        }

        private int placesWithoutJokers() {
            int places = 0;
            for (int p = 0; p < laid; p++) {
                if (!isJokerAt(p)) {
                    places |= 1 << p;
                }
            }
            return places;
        }

        int placesOfGood(int good) {
            int places = 0;
            for (int p = 0; p < laid; p++) {
                if (look(told.goods, islandAt(p)) == good) {
                    places |= 1 << p;
                }
            }
            return places;
        }

        int personsAt(int places) {
            int sum = 0;
            for (int p = 0; p < laid; p++) {
                if ((places >> p & 1) == 1) {
                    sum += look(told.persons, islandAt(p));
                }
            }
            return sum;
        }

        /** The fewest bridges from an island to one of these places. */
        int bridges(int i, int goals) {
            int start = placeBit(i);
            int open = placesWithoutJokers() | start;
            int edge = start;
            int reached = start;
            for (int far = 0; far <= MOST_CARDS; far++) {
                if ((edge & goals) != 0) {
                    return far;
                }
                edge = besidePlaces(edge & open) & ~reached;
                reached |= edge;
            }
            return NEVER;
        }

        int mostPeople() {
            int open = placesWithoutJokers();
            int most = 0;
            for (int p = 0; p < laid; p++) {
                int group = 1 << p & open;
                for (int step = 0; step < MOST_CARDS; step++) {
                    group |= besidePlaces(group) & open;
                }
                most = Math.max(most, personsAt(group));
            }
            return most;
        }
    }

    /** The fewest moves that bring one, two or three cards where they are wanted. */
    private static final class Search {
        private static final int STATES = MOST_CARDS * MOST_CARDS * MOST_CARDS;
        private static final int UNSEEN = -3;
        private static final int START = -2;

        /** A state is the cards' places as digits of a number, the first card's the lowest. */
        private final int[] queue = new int[STATES];
        private final int[] from = new int[STATES];
        private final int[] by = new int[STATES];
        /** Of each place of the sea the places beside it, as bits. */
        private int[] near = new int[MOST_CARDS];
        private int cards = 1;
        private int count = 0;
        private int wanted = NONE;
        private int goal = NONE;

        void bringTo(int place, int start, int count) {
            cards = 1;
            wanted = place;
            seek(start, count);
        }

        void bringTogether(Told sea, int p, int q, int count) {
            cards = 2;
            near = sea.near;
            seek(p + MOST_CARDS * q, count);
        }

        void bringThree(Told sea, int p, int q, int r, int count) {
            cards = 3;
            near = sea.near;
            seek(p + MOST_CARDS * (q + MOST_CARDS * r), count);
        }

        /**
         * Breadth first, moves by numbers: states are queued in the order of their first rows of moves,
         * so the first one that is a goal has the first of the shortest rows.
         */
        private void seek(int start, int deckCount) {
            count = deckCount;
            goal = NONE;
            Arrays.fill(by, UNSEEN);
            put(by, start, START);
            put(queue, 0, start);
            int queued = canBe() ? 1 : 0;
            for (int head = 0; head < queued && head < STATES; head++) {
                int state = look(queue, head);
                if (isGoal(state)) {
                    goal = state;
                    break;
                }
                queued = queueNext(state, queued);
            }
        }

        /** Spares looking through all states for cards that no places of the sea could hold together. */
        private boolean canBe() {
            int laid = (1 << count) - 1;
            for (int p = 0; p < count; p++) {
                if (cards == 1 || Integer.bitCount(look(near, p) & laid) >= cards - 1) {
                    return true;
                }
            }
            return false;
        }

        private int queueNext(int state, int queued) {
            int tail = queued;
            for (int move = 0; move < movesOf(count); move++) {
                int next = stateBehind(state, move);
                if (look(by, next) == UNSEEN) {
                    put(by, next, move);
                    put(from, next, state);
                    put(queue, tail, next);
                    tail++;
                }
            }
            return tail;
        }

        private int stateBehind(int state, int move) {
            int next = 0;
            int left = state;
            int unit = 1;
            for (int c = 0; c < cards; c++) {
                next += unit * goesTo(move, left % MOST_CARDS, count);
                left /= MOST_CARDS;
                unit *= MOST_CARDS;
            }
            return next;
        }

        private boolean isGoal(int state) {
            if (cards == 1) {
                return state == wanted;
            }
            int p = state % MOST_CARDS;
            int q = state / MOST_CARDS % MOST_CARDS;
            if (cards == 2) {
                return pairs(p, q) == 1;
            }
            int r = state / (MOST_CARDS * MOST_CARDS);
            return pairs(p, q) + pairs(p, r) + pairs(q, r) >= 2;
        }

        private int pairs(int p, int q) {
            return look(near, p) >> q & 1;
        }

        /** How many moves; NEVER if no row of moves does. */
        int length() {
            if (goal == NONE) {
                return NEVER;
            }
            int state = goal;
            int steps = 0;
            while (steps < STATES && look(by, state) >= 0) {
                state = look(from, state);
                steps++;
            }
            return steps;
        }

        int moveOf(int k) {
            int state = goal;
            for (int step = length() - 1; step > k; step--) {
                state = look(from, state);
            }
            return look(by, state);
        }
    }

    /** By how many rows of moves, each as likely, a card comes to each place. */
    private static final class Chances {
        private final long[] to = new long[MOST_CARDS];
        private final long[] before = new long[MOST_CARDS];
        private int count = 0;
        long rows = 1;

        void begin(int place, int cards) {
            count = Math.min(cards, MOST_CARDS);
            rows = 1;
            Arrays.fill(to, 0L);
            if (place >= 0 && place < to.length) {
                to[place] = 1;
            }
        }

        void goOn() {
            System.arraycopy(to, 0, before, 0, MOST_CARDS);
            Arrays.fill(to, 0L);
            for (int p = 0; p < count && p < before.length; p++) {
                for (int move = 0; move < movesOf(count); move++) {
                    add(goesTo(move, p, count), before[p]);
                }
            }
            rows *= movesOf(count);
        }

        private void add(int place, long more) {
            if (place >= 0 && place < to.length) {
                to[place] += more;
            }
        }

        long rowsTo(int place) {
            return place >= 0 && place < to.length ? to[place] : 0;
        }

        long rowsAhead(int place) {
            long sum = 0;
            for (int p = 0; p < place; p++) {
                sum += rowsTo(p);
            }
            return sum;
        }

        /** The greatest less the least of all places. */
        long difference() {
            long most = rowsTo(0);
            long least = most;
            for (int p = 1; p < count; p++) {
                most = Math.max(most, rowsTo(p));
                least = Math.min(least, rowsTo(p));
            }
            return most - least;
        }
    }

    /** What the one gains by each pair of moves, his own ahead. */
    private static final class Game {
        private final int[] gains = new int[MOST_MOVES * MOST_MOVES];
        int moves = 0;

        void setGain(int one, int two, int value) {
            put(gains, one * MOST_MOVES + two, value);
        }

        private int gainOf(int one, int two) {
            return look(gains, one * MOST_MOVES + two);
        }

        private boolean isRest(int one, int two) {
            int here = gainOf(one, two);
            for (int move = 0; move < moves; move++) {
                if (gainOf(move, two) > here || gainOf(one, move) < here) {
                    return false;
                }
            }
            return true;
        }

        int countRests() {
            int found = 0;
            for (int one = 0; one < moves; one++) {
                for (int two = 0; two < moves; two++) {
                    if (isRest(one, two)) {
                        found++;
                    }
                }
            }
            return found;
        }

        int firstRest() {
            for (int one = 0; one < moves; one++) {
                for (int two = 0; two < moves; two++) {
                    if (isRest(one, two)) {
                        return 100 * one + two;
                    }
                }
            }
            return NEVER;
        }
    }
}
