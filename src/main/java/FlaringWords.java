/**
 * Words that flare up in the news. The document (DOC.md) says in numbered promises what each call
 * answers; words in capitals here are the document's.
 *
 * <p>All rows are made once, in the constructors, and used again by every call: no call makes an object.
 */
public final class FlaringWords {
    public static final int NONE = -1, UNKNOWN = -1000000001, OUTSIDE = -1000000002, NOT = -1000000003,
            FULL = -1000000004;

    private static final int WORDS = 8;
    private static final int SETS = 256;
    private static final int MOST_DAYS = 12;
    private static final int MOST_PIECES = 40;
    private static final int MOST_LEVELS = 3;
    private static final int MOST_DRAWN = 12;
    private static final int MOST_UNDONE = 16;
    private static final int IMAGES = 2;
    private static final int LETTERS = 256;
    private static final int FAULT_BASE = -10;

    private static final long SEED_FACTOR = 1103515245L;
    private static final long SEED_SUMMAND = 12345L;
    private static final long SEED_BOUND = 2147483648L;
    private static final int DRAW_DIVISOR = 65536;

    private final News news = new News();
    private final Findings findings = new Findings();
    private final Text text = new Text();
    private final Deeds deeds = new Deeds();
    private final Book book = new Book();
    private final Image[] images = new Image[IMAGES];
    private int theSeed = 0;
    private int faultPlace = NONE;
    private boolean stale = true;

    public FlaringWords() {
        for (int i = 0; i < IMAGES; i++) {
            images[i] = new Image();
        }
    }

    // ---- pieces told

    public int feed(int letter) {
        if (letter < 0 || letter >= LETTERS) {
            return OUTSIDE;
        }
        if (!text.hasRoom()) {
            return FULL;
        }
        text.add(letter);
        return text.length();
    }

    public int pieces() {
        int wrong = text.read(news.dayCount(), MOST_PIECES - news.count());
        faultPlace = wrong == Text.SOUND ? NONE : text.place();
        text.clear();
        if (wrong != Text.SOUND) {
            return FAULT_BASE - wrong;
        }
        aheadOfDeed();
        for (int i = 0; i < text.readCount(); i++) {
            news.add(text.dayRead(i), text.setRead(i));
        }
        return news.count();
    }

    public int fault() {
        return faultPlace;
    }

    public int told(int what) {
        switch (what) {
            case 0: return news.dayCount();
            case 1: return news.count();
            case 2: return found().flares.number();
            case 3: return found().stories.number();
            case 4: return news.levels();
            case 5: return news.base();
            case 6: return news.step();
            case 7: return news.rise();
            case 8: return text.length();
            case 9: return book.entries();
            case 10: return book.firstWrong(news, found().levels);
            case 11: return deeds.number();
            case 12: return theSeed;
            default: return OUTSIDE;
        }
    }

    public int at(int k, int what) {
        if (!news.hasPiece(k)) {
            return UNKNOWN;
        }
        switch (what) {
            case 0: return news.dayOf(k);
            case 1: return news.setOf(k);
            default: return OUTSIDE;
        }
    }

    public int day(int d, int what) {
        if (!news.hasDay(d)) {
            return UNKNOWN;
        }
        switch (what) {
            case 0: return found().tally.all(d);
            case 1: return found().hot(d);
            case 2: return found().top(d);
            default: return OUTSIDE;
        }
    }

    public int word(int w, int d, int what) {
        if (!isWord(w) || !news.hasDay(d)) {
            return UNKNOWN;
        }
        switch (what) {
            case 0: return found().tally.count(w, d);
            case 1: return found().levels.of(w, d);
            case 2: case 3: case 4: case 5:
                return news.hasLevel(what - 2) ? found().tally.wanted(w, d, what - 2) : NONE;
            default: return OUTSIDE;
        }
    }

    public int cost(int w) {
        return isWord(w) ? found().levels.costOf(w) : UNKNOWN;
    }

    public int steady(int w, int l) {
        if (!isWord(w)) {
            return UNKNOWN;
        }
        return news.hasLevel(l) ? found().tally.costOfSteady(w, l) : OUTSIDE;
    }

    public int flare(int f, int what) {
        Findings now = found();
        if (!now.flares.has(f)) {
            return UNKNOWN;
        }
        return Flares.isFact(what) ? now.flares.fact(f, what) : OUTSIDE;
    }

    public int story(int s, int what) {
        Findings now = found();
        if (!now.stories.has(s)) {
            return UNKNOWN;
        }
        return Stories.isFact(what) ? now.stories.fact(s, what) : OUTSIDE;
    }

    public int together(int w, int v) {
        return isWord(w) && isWord(v) ? news.countWith(setOfWord(w) | setOfWord(v)) : UNKNOWN;
    }

    // ---- deeds

    public int piece(int d, int set) {
        if (!news.hasDay(d)) {
            return UNKNOWN;
        }
        if (set < 0 || set >= SETS) {
            return OUTSIDE;
        }
        if (!news.hasRoom()) {
            return FULL;
        }
        comes(d, set);
        return news.count() - 1;
    }

    public int take(int k) {
        if (!news.hasPiece(k)) {
            return UNKNOWN;
        }
        aheadOfDeed();
        news.remove(k);
        return news.count();
    }

    public int move(int k, int d) {
        if (!news.hasPiece(k) || !news.hasDay(d)) {
            return UNKNOWN;
        }
        int was = news.dayOf(k);
        aheadOfDeed();
        news.putOn(k, d);
        return was;
    }

    public int days(int d) {
        if (d < 1 || d > MOST_DAYS) {
            return OUTSIDE;
        }
        if (news.hasPieceFrom(d)) {
            return NOT;
        }
        int was = news.dayCount();
        aheadOfDeed();
        news.setDayCount(d);
        return was;
    }

    public int term(int which, int v) {
        if (!News.isTerm(which) || !News.isInBounds(which, v)) {
            return OUTSIDE;
        }
        int was = news.termOf(which);
        aheadOfDeed();
        news.setTerm(which, v);
        return was;
    }

    public int drift(int n) {
        if (n < 1 || n > MOST_DRAWN) {
            return OUTSIDE;
        }
        for (int i = 0; i < n && news.hasRoom(); i++) {
            int d = draw(news.dayCount());
            int set = draw(SETS);
            comes(d, set);
        }
        return news.count();
    }

    public int undo(int n) {
        if (n < 1 || n > MOST_UNDONE) {
            return OUTSIDE;
        }
        if (n > deeds.number()) {
            return NOT;
        }
        deeds.takeBack(n, news);
        stale = true;
        return news.count();
    }

    // ---- the book

    public int write(int w, int d, int l) {
        if (!isWord(w) || !news.hasDay(d)) {
            return UNKNOWN;
        }
        if (!book.hasRoom()) {
            return FULL;
        }
        book.add(w, d, l);
        return book.entries();
    }

    public int tear() {
        int had = book.entries();
        book.clear();
        return had;
    }

    // ---- images

    public int seed(int v) {
        if (v < 0) {
            return OUTSIDE;
        }
        int was = theSeed;
        theSeed = v;
        return was;
    }

    public int keep(int i) {
        Image image = imageOf(i);
        if (image == null) {
            return UNKNOWN;
        }
        image.hold(news, theSeed);
        deeds.forget();
        return 1;
    }

    public int goBack(int i) {
        Image image = imageOf(i);
        if (image == null) {
            return UNKNOWN;
        }
        if (!image.isHeld()) {
            return NOT;
        }
        news.become(image.heldNews());
        theSeed = image.heldSeed();
        stale = true;
        deeds.forget();
        return 1;
    }

    // ---- what the calls share

    private static boolean isWord(int w) {
        return w >= 0 && w < WORDS;
    }

    private static int setOfWord(int w) {
        return 1 << w;
    }

    /** Every deed passes here before it changes the news, so that it can be undone and is seen by what is asked. */
    private void aheadOfDeed() {
        deeds.remember(news);
        stale = true;
    }

    private void comes(int d, int set) {
        aheadOfDeed();
        news.add(d, set);
    }

    private int draw(int n) {
        theSeed = (int) ((theSeed * SEED_FACTOR + SEED_SUMMAND) % SEED_BOUND);
        return n < 1 ? 0 : theSeed / DRAW_DIVISOR % n;
    }

    private Image imageOf(int i) {
        return i >= 0 && i < IMAGES ? images[i] : null;
    }

    /** Each finding rests on those above it, so the order counts. */
    private Findings found() {
        if (stale) {
            findings.tally.countAll(news);
            findings.levels.findAll(findings.tally);
            findings.flares.findAll(findings.tally, findings.levels);
            findings.stories.findAll(news, findings.flares);
            stale = false;
        }
        return findings;
    }

    /** All of section 1 but THE TEXT: what is undone and what IMAGES keep. */
    private static final class News {
        private static final int LEVELS = 0, BASE = 1, STEP = 2, RISE = 3, TERMS = 4;
        private static final int[] LEAST = {1, 1, 1, 0};
        private static final int[] MOST = {3, 9, 9, 99};
        private static final int[] AT_FIRST = {2, 2, 2, 6};
        private static final int DAYS_AT_FIRST = 6;

        private final int[] terms = AT_FIRST.clone();
        private final int[] dayOfPiece = new int[MOST_PIECES];
        private final int[] setOfPiece = new int[MOST_PIECES];
        private int dayCount = DAYS_AT_FIRST;
        private int count = 0;

        static boolean isTerm(int which) {
            return which >= 0 && which < TERMS;
        }

        static boolean isInBounds(int which, int v) {
            return isTerm(which) && v >= LEAST[which] && v <= MOST[which];
        }

        int termOf(int which) {
            return isTerm(which) ? terms[which] : NONE;
        }

        void setTerm(int which, int v) {
            if (isInBounds(which, v)) {
                terms[which] = v;
            }
        }

        int levels() {
            return terms[LEVELS];
        }

        int base() {
            return terms[BASE];
        }

        int step() {
            return terms[STEP];
        }

        int rise() {
            return terms[RISE];
        }

        boolean hasLevel(int l) {
            return l >= 0 && l <= terms[LEVELS];
        }

        int dayCount() {
            return dayCount;
        }

        boolean hasDay(int d) {
            return d >= 0 && d < dayCount;
        }

        void setDayCount(int d) {
            dayCount = Math.max(1, Math.min(d, MOST_DAYS));
        }

        int count() {
            return count;
        }

        boolean hasPiece(int k) {
            return k >= 0 && k < count;
        }

        boolean hasRoom() {
            return count < MOST_PIECES;
        }

        int dayOf(int k) {
            return hasPiece(k) ? dayOfPiece[k] : NONE;
        }

        int setOf(int k) {
            return hasPiece(k) ? setOfPiece[k] : 0;
        }

        void add(int d, int set) {
            if (hasRoom()) {
                dayOfPiece[count] = d;
                setOfPiece[count] = set;
                count++;
            }
        }

        void remove(int k) {
            if (!hasPiece(k)) {
                return;
            }
            for (int i = k + 1; i < count; i++) {
                dayOfPiece[i - 1] = dayOfPiece[i];
                setOfPiece[i - 1] = setOfPiece[i];
            }
            count--;
        }

        void putOn(int k, int d) {
            if (hasPiece(k)) {
                dayOfPiece[k] = d;
            }
        }

        boolean hasPieceFrom(int d) {
            for (int k = 0; k < count; k++) {
                if (dayOfPiece[k] >= d) {
                    return true;
                }
            }
            return false;
        }

        /** How many PIECES have all WORDS of the SET. */
        int countWith(int set) {
            int having = 0;
            for (int k = 0; k < count; k++) {
                if ((setOfPiece[k] & set) == set) {
                    having++;
                }
            }
            return having;
        }

        int countWithOn(int set, int d) {
            int having = 0;
            for (int k = 0; k < count; k++) {
                if (dayOfPiece[k] == d && (setOfPiece[k] & set) == set) {
                    having++;
                }
            }
            return having;
        }

        void become(News other) {
            if (other == null) {
                return;
            }
            dayCount = other.dayCount;
            count = other.count;
            System.arraycopy(other.terms, 0, terms, 0, TERMS);
            System.arraycopy(other.dayOfPiece, 0, dayOfPiece, 0, MOST_PIECES);
            System.arraycopy(other.setOfPiece, 0, setOfPiece, 0, MOST_PIECES);
        }
    }

    /** THE TEXT, and the PIECES that it was last read to tell. */
    private static final class Text {
        static final int SOUND = 0;

        private static final int CANNOT_STAND = 1, NO_SUCH_DAY = 2, PIECE_TOO_MANY = 3;
        private static final int MOST_LETTERS = 60;
        private static final int SHORTEST_PIECE = 3;
        private static final int MOST_READ = MOST_LETTERS / SHORTEST_PIECE;
        private static final int END = -1;

        private final int[] letters = new int[MOST_LETTERS];
        private final int[] daysRead = new int[MOST_READ];
        private final int[] setsRead = new int[MOST_READ];
        private int length = 0;
        private int readCount = 0;
        private int place = 0;

        boolean hasRoom() {
            return length < MOST_LETTERS;
        }

        int length() {
            return length;
        }

        void add(int letter) {
            if (hasRoom()) {
                letters[length] = letter;
                length++;
            }
        }

        void clear() {
            length = 0;
        }

        /** Where reading stopped: with a FAULT, the letter that has it. */
        int place() {
            return place;
        }

        int readCount() {
            return readCount;
        }

        int dayRead(int i) {
            return i >= 0 && i < readCount ? daysRead[i] : NONE;
        }

        int setRead(int i) {
            return i >= 0 && i < readCount ? setsRead[i] : 0;
        }

        /** The number of the first FAULT, or SOUND. */
        int read(int dayCount, int room) {
            place = 0;
            readCount = 0;
            int wrong = SOUND;
            for (int i = 0; i < MOST_READ && place < length && wrong == SOUND; i++) {
                wrong = readPiece(dayCount, room);
            }
            return wrong;
        }

        private int readPiece(int dayCount, int room) {
            if (!isFigure(letterAt(place))) {
                return CANNOT_STAND;
            }
            boolean twoFigures = hasTwoFigures();
            int d = twoFigures ? 10 + letterAt(place + 1) - '0' : letterAt(place) - '0';
            if (d >= dayCount) {
                return NO_SUCH_DAY;
            }
            if (readCount >= room || readCount >= MOST_READ) {
                return PIECE_TOO_MANY;
            }
            place += twoFigures ? 2 : 1;
            if (!passes(':')) {
                return CANNOT_STAND;
            }
            int set = readWords();
            if (!passes(';')) {
                return CANNOT_STAND;
            }
            daysRead[readCount] = d;
            setsRead[readCount] = set;
            readCount++;
            return SOUND;
        }

        private boolean hasTwoFigures() {
            int behind = letterAt(place + 1);
            return letterAt(place) == '1' && (behind == '0' || behind == '1');
        }

        private int readWords() {
            int set = 0;
            for (; place < length && isWord(letterAt(place) - 'a'); place++) {
                set |= setOfWord(letterAt(place) - 'a');
            }
            return set;
        }

        private boolean passes(char sign) {
            boolean stands = letterAt(place) == sign;
            if (stands) {
                place++;
            }
            return stands;
        }

        private int letterAt(int p) {
            return p >= 0 && p < length ? letters[p] : END;
        }

        private static boolean isFigure(int letter) {
            return letter >= '0' && letter <= '9';
        }
    }

    /** The news as they were ahead of each of the latest deeds, the latest last. */
    private static final class Deeds {
        private final News[] ahead = new News[MOST_UNDONE];
        private int number = 0;

        Deeds() {
            for (int i = 0; i < MOST_UNDONE; i++) {
                ahead[i] = new News();
            }
        }

        int number() {
            return number;
        }

        void forget() {
            number = 0;
        }

        void remember(News news) {
            if (number >= MOST_UNDONE) {
                dropOldest();
            }
            if (number >= 0 && number < MOST_UNDONE && ahead[number] != null) {
                ahead[number].become(news);
                number++;
            }
        }

        void takeBack(int n, News news) {
            if (n >= 1 && n <= number && news != null) {
                number -= n;
                news.become(ahead[number]);
            }
        }

        /** The oldest one's object goes behind the others, to be used again. */
        private void dropOldest() {
            News oldest = ahead[0];
            for (int i = 1; i < MOST_UNDONE; i++) {
                ahead[i - 1] = ahead[i];
            }
            ahead[MOST_UNDONE - 1] = oldest;
            number = MOST_UNDONE - 1;
        }
    }

    private static final class Image {
        private final News kept = new News();
        private int keptSeed = 0;
        private boolean held = false;

        void hold(News news, int seedNow) {
            kept.become(news);
            keptSeed = seedNow;
            held = true;
        }

        boolean isHeld() {
            return held;
        }

        News heldNews() {
            return kept;
        }

        int heldSeed() {
            return keptSeed;
        }
    }

    /** THE BOOK. */
    private static final class Book {
        private static final int MOST_ENTRIES = 20;

        private final int[] words = new int[MOST_ENTRIES];
        private final int[] daysTold = new int[MOST_ENTRIES];
        private final int[] levelsTold = new int[MOST_ENTRIES];
        private int entries = 0;

        boolean hasRoom() {
            return entries < MOST_ENTRIES;
        }

        int entries() {
            return entries;
        }

        void add(int w, int d, int l) {
            if (hasRoom()) {
                words[entries] = w;
                daysTold[entries] = d;
                levelsTold[entries] = l;
                entries++;
            }
        }

        void clear() {
            entries = 0;
        }

        int firstWrong(News news, Levels levels) {
            if (news == null || levels == null) {
                return NONE;
            }
            for (int i = 0; i < entries; i++) {
                if (!news.hasDay(daysTold[i]) || levels.of(words[i], daysTold[i]) != levelsTold[i]) {
                    return i;
                }
            }
            return NONE;
        }
    }

    /** All that follows from the news, found anew only when they have changed. */
    private static final class Findings {
        final Tally tally = new Tally();
        final Levels levels = new Levels();
        final Flares flares = new Flares();
        final Stories stories = new Stories();

        int hot(int d) {
            int set = 0;
            for (int w = 0; w < WORDS; w++) {
                if (levels.of(w, d) > 0) {
                    set |= setOfWord(w);
                }
            }
            return set;
        }

        int top(int d) {
            int best = NONE;
            for (int w = 0; w < WORDS; w++) {
                if (levels.of(w, d) > 0 && (best == NONE || isAbove(w, best, d))) {
                    best = w;
                }
            }
            return best;
        }

        private boolean isAbove(int w, int v, int d) {
            if (levels.of(w, d) != levels.of(v, d)) {
                return levels.of(w, d) > levels.of(v, d);
            }
            return tally.count(w, d) > tally.count(v, d);
        }
    }

    /** ALL and COUNT of each DAY, and how unlikely they are by the LEVELS. */
    private static final class Tally {
        private final int[] allOnDay = new int[MOST_DAYS];
        private final int[][] counts = new int[WORDS][MOST_DAYS];
        private final int[][] usual = new int[WORDS][MOST_DAYS];
        private int dayCount = 0;
        private int highest = 0;
        private int base = 0;
        private int step = 0;
        private int rise = 0;

        void countAll(News news) {
            dayCount = news.dayCount();
            highest = news.levels();
            base = news.base();
            step = news.step();
            rise = news.rise();
            for (int d = 0; d < MOST_DAYS; d++) {
                allOnDay[d] = news.countWithOn(0, d);
            }
            for (int w = 0; w < WORDS; w++) {
                countWord(news, w);
            }
        }

        private void countWord(News news, int w) {
            int pieceCount = news.count();
            int having = news.countWith(setOfWord(w));
            for (int d = 0; d < MOST_DAYS; d++) {
                counts[w][d] = news.countWithOn(setOfWord(w), d);
                usual[w][d] = pieceCount < 1 ? 0 : allOnDay[d] * having / pieceCount;
            }
        }

        static boolean isDay(int d) {
            return d >= 0 && d < MOST_DAYS;
        }

        int dayCount() {
            return dayCount;
        }

        int highest() {
            return highest;
        }

        int all(int d) {
            return isDay(d) ? allOnDay[d] : 0;
        }

        int count(int w, int d) {
            return isWord(w) && isDay(d) ? counts[w][d] : 0;
        }

        int wanted(int w, int d, int l) {
            return isWord(w) && isDay(d) ? usual[w][d] + l * step : 0;
        }

        int unlikely(int w, int d, int l) {
            return base * Math.abs(count(w, d) - wanted(w, d, l));
        }

        int costOfRise(int from, int to) {
            return to > from ? rise * (to - from) : 0;
        }

        int costOfSteady(int w, int l) {
            int sum = costOfRise(0, l);
            for (int d = 0; d < dayCount; d++) {
                sum += unlikely(w, d, l);
            }
            return sum;
        }
    }

    /** LEVELS of all WORDS, and what they cost. */
    private static final class Levels {
        private final int[][] found = new int[WORDS][MOST_DAYS];
        private final int[] costs = new int[WORDS];
        private final int[][] rest = new int[MOST_DAYS][MOST_LEVELS + 1];

        void findAll(Tally tally) {
            for (int w = 0; w < WORDS; w++) {
                costRests(tally, w);
                costs[w] = costFrom(tally, 0, 0, leastFrom(tally, 0, 0));
                walk(tally, w);
            }
        }

        int of(int w, int d) {
            return isWord(w) && Tally.isDay(d) ? found[w][d] : 0;
        }

        int costOf(int w) {
            return isWord(w) ? costs[w] : 0;
        }

        /**
         * From the last DAY back: what each LEVEL costs with the best of all later DAYS. So the walk from DAY 0 on
         * can take the least LEVEL of like ones each DAY, which is the order that the document asks for.
         */
        private void costRests(Tally tally, int w) {
            int last = tally.dayCount() - 1;
            for (int d = last; d >= 0; d--) {
                for (int l = 0; l <= tally.highest(); l++) {
                    int later = d == last ? 0 : costFrom(tally, d + 1, l, leastFrom(tally, d + 1, l));
                    rest[d][l] = tally.unlikely(w, d, l) + later;
                }
            }
        }

        private void walk(Tally tally, int w) {
            int l = 0;
            for (int d = 0; d < tally.dayCount(); d++) {
                l = leastFrom(tally, d, l);
                found[w][d] = l;
            }
        }

        /** The LEVEL of a DAY from which all costs least, the least of like ones, behind the LEVEL before. */
        private int leastFrom(Tally tally, int d, int before) {
            int best = 0;
            for (int l = 1; l <= tally.highest(); l++) {
                if (costFrom(tally, d, before, l) < costFrom(tally, d, before, best)) {
                    best = l;
                }
            }
            return best;
        }

        private int costFrom(Tally tally, int d, int before, int l) {
            boolean known = Tally.isDay(d) && l >= 0 && l <= MOST_LEVELS;
            return known ? rest[d][l] + tally.costOfRise(before, l) : 0;
        }
    }

    /** FLARES by their numbers, what is told of each in a row by the document's number for it. */
    private static final class Flares {
        static final int WORD = 0, LEVEL = 1, FIRST = 2, LAST = 3, WITHIN = 4, WEIGHT = 5, PEAK = 6, FADE = 7,
                STORY = 8, FACTS = 9;

        /** A WORD's FLARES at one LEVEL have a DAY between them, so they are half the DAYS at most. */
        static final int MOST_FLARES = WORDS * MOST_LEVELS * (MOST_DAYS / 2);

        private static final int WEIGHT_ADDED = 1000;

        private final int[][] facts = new int[FACTS][MOST_FLARES];
        private int number = 0;

        int number() {
            return number;
        }

        boolean has(int f) {
            return f >= 0 && f < number;
        }

        boolean hasDay(int f, int d) {
            return has(f) && facts[FIRST][f] <= d && d <= facts[LAST][f];
        }

        boolean isAtOne(int f) {
            return has(f) && facts[LEVEL][f] == 1;
        }

        int setOf(int f) {
            return has(f) ? setOfWord(facts[WORD][f]) : 0;
        }

        static boolean isFact(int what) {
            return what >= 0 && what < FACTS;
        }

        int fact(int f, int what) {
            return has(f) && isFact(what) ? facts[what][f] : NONE;
        }

        void putStory(int f, int s) {
            if (has(f)) {
                facts[STORY][f] = s;
            }
        }

        void findAll(Tally tally, Levels levels) {
            number = 0;
            for (int w = 0; w < WORDS; w++) {
                for (int l = 1; l <= tally.highest(); l++) {
                    findAt(levels, w, l, tally.dayCount());
                }
            }
            for (int f = 0; f < number; f++) {
                facts[WITHIN][f] = around(f);
                facts[WEIGHT][f] = weightOf(tally, f) + WEIGHT_ADDED;
                facts[PEAK][f] = peakOf(tally, f);
                facts[FADE][f] = fadeOf(tally, f);
                facts[STORY][f] = NONE;
            }
        }

        private void findAt(Levels levels, int w, int l, int dayCount) {
            int first = NONE;
            for (int d = 0; d <= dayCount; d++) {
                boolean reached = d < dayCount && levels.of(w, d) >= l;
                if (reached && first == NONE) {
                    first = d;
                } else if (!reached && first != NONE) {
                    add(w, l, first, d - 1);
                    first = NONE;
                }
            }
        }

        private void add(int w, int l, int first, int last) {
            if (number < MOST_FLARES) {
                facts[WORD][number] = w;
                facts[LEVEL][number] = l;
                facts[FIRST][number] = first;
                facts[LAST][number] = last;
                number++;
            }
        }

        /** One of its DAYS is enough to know the FLARE below by: that has them all or none. */
        private int around(int f) {
            for (int g = 0; g < f; g++) {
                if (facts[WORD][g] == facts[WORD][f] && facts[LEVEL][g] == facts[LEVEL][f] - 1
                        && hasDay(g, facts[FIRST][f])) {
                    return g;
                }
            }
            return NONE;
        }

        private int weightOf(Tally tally, int f) {
            int w = facts[WORD][f];
            int l = facts[LEVEL][f];
            int sum = 0;
            for (int d = facts[FIRST][f]; d <= facts[LAST][f]; d++) {
                sum += tally.unlikely(w, d, l - 1) - tally.unlikely(w, d, l);
            }
            return sum;
        }

        private int peakOf(Tally tally, int f) {
            int w = facts[WORD][f];
            int peak = facts[FIRST][f];
            for (int d = peak + 1; d <= facts[LAST][f]; d++) {
                if (tally.count(w, d) > tally.count(w, peak)) {
                    peak = d;
                }
            }
            return peak;
        }

        private int fadeOf(Tally tally, int f) {
            int w = facts[WORD][f];
            return tally.count(w, facts[PEAK][f]) - tally.count(w, facts[LAST][f]);
        }
    }

    /** STORIES by their numbers, what is told of each in a row by the document's number for it. */
    private static final class Stories {
        private static final int SIZE = 0, SET = 1, FIRST = 2, LAST = 3, FACTS = 4;
        private static final int MOST_STORIES = WORDS * (MOST_DAYS / 2);

        private final int[] heaps = new int[Flares.MOST_FLARES];
        private final int[][] facts = new int[FACTS][MOST_STORIES];
        private int number = 0;

        int number() {
            return number;
        }

        boolean has(int s) {
            return s >= 0 && s < number;
        }

        static boolean isFact(int what) {
            return what >= 0 && what < FACTS;
        }

        int fact(int s, int what) {
            return has(s) && isFact(what) ? facts[what][s] : NONE;
        }

        void findAll(News news, Flares flares) {
            for (int f = 0; f < flares.number(); f++) {
                heaps[f] = flares.isAtOne(f) ? f : NONE;
            }
            for (int k = 0; k < news.count(); k++) {
                tieBy(flares, news.dayOf(k), news.setOf(k));
            }
            numberHeaps(flares);
        }

        /** One PIECE ties all FLARES at 1 that have its DAY and one of its WORDS: a WORD has but one such on a DAY. */
        private void tieBy(Flares flares, int d, int set) {
            int tied = NONE;
            for (int f = 0; f < flares.number(); f++) {
                boolean ties = flares.isAtOne(f) && flares.hasDay(f, d) && (set & flares.setOf(f)) != 0;
                if (ties) {
                    tied = tied == NONE ? heaps[f] : joined(tied, heaps[f], flares.number());
                }
            }
        }

        /** A heap goes by its first FLARE, so of two the lower number stays. */
        private int joined(int heap, int other, int flareCount) {
            int stays = Math.min(heap, other);
            int goes = Math.max(heap, other);
            for (int f = 0; f < flareCount; f++) {
                if (heaps[f] == goes) {
                    heaps[f] = stays;
                }
            }
            return stays;
        }

        private void numberHeaps(Flares flares) {
            number = 0;
            for (int f = 0; f < flares.number(); f++) {
                if (flares.isAtOne(f)) {
                    int s = heaps[f] == f ? begun(flares, f) : flares.fact(heaps[f], Flares.STORY);
                    flares.putStory(f, s);
                    grow(s, flares, f);
                }
            }
        }

        private int begun(Flares flares, int f) {
            if (number >= MOST_STORIES) {
                return NONE;
            }
            facts[SIZE][number] = 0;
            facts[SET][number] = 0;
            facts[FIRST][number] = flares.fact(f, Flares.FIRST);
            facts[LAST][number] = flares.fact(f, Flares.LAST);
            number++;
            return number - 1;
        }

        private void grow(int s, Flares flares, int f) {
            if (!has(s)) {
                return;
            }
            facts[SIZE][s]++;
            facts[SET][s] |= flares.setOf(f);
            facts[FIRST][s] = Math.min(facts[FIRST][s], flares.fact(f, Flares.FIRST));
            facts[LAST][s] = Math.max(facts[LAST][s], flares.fact(f, Flares.LAST));
        }
    }
}
