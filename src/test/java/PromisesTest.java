/** Promises 1 to 25 in their order, with answers reckoned by hand from the document. */
final class PromisesTest {
    private static final int NONE = FlaringWords.NONE, UNKNOWN = FlaringWords.UNKNOWN, OUTSIDE = FlaringWords.OUTSIDE,
            NOT = FlaringWords.NOT, FULL = FlaringWords.FULL;
    private static final int LOW = Integer.MIN_VALUE, HIGH = Integer.MAX_VALUE;

    private static final int DAYS = 0, PIECES = 1, FLARES = 2, STORIES = 3, TEXT = 8, ENTRIES = 9, WRONG = 10,
            UNDOABLE = 11, SEED = 12;

    private final Checks checks = new Checks("PromisesTest");
    private int promise = 0;

    public static void main(String[] args) {
        new PromisesTest().run();
    }

    private void run() {
        promise1();
        promise2();
        promise3();
        promise3Faults();
        promise3TooMany();
        promise4();
        promise5();
        promise6();
        promise7();
        promise8();
        promise9();
        promise9OfLikeRows();
        promise9OfRising();
        promise10();
        promise11();
        promise11PeakAtLast();
        promise11DaysGone();
        promise11Story();
        promise12();
        promise13();
        promise14();
        promise15();
        promise16();
        promise17();
        promise18();
        promise19();
        promise20();
        promise20EachDeed();
        promise20Sixteen();
        promise21();
        promise22();
        promise23();
        promise24();
        promise25();
        checks.end();
    }

    private void due(String call, int want, int got) {
        checks.due("promise " + promise + ": " + call, want, got);
    }

    private static void feed(FlaringWords x, String text) {
        for (int i = 0; i < text.length(); i++) {
            x.feed(text.charAt(i));
        }
    }

    private static FlaringWords told(String... texts) {
        FlaringWords x = new FlaringWords();
        for (String text : texts) {
            feed(x, text);
            x.pieces();
        }
        return x;
    }

    private static FlaringWords full() {
        FlaringWords x = new FlaringWords();
        for (int k = 0; k < 40; k++) {
            x.piece(k % 6, 1 << k % 8);
        }
        return x;
    }

    /** DAY 1 has four pieces with 'a', two of them with 'b'; DAYS 0 and 2 have one piece without words. */
    private static FlaringWords flaring() {
        FlaringWords x = told("0:;1:a;1:a;1:ab;1:ab;2:;");
        x.days(3);
        x.term(1, 3);
        x.term(2, 1);
        x.term(3, 2);
        return x;
    }

    private void levels(FlaringWords x, int w, int... want) {
        for (int d = 0; d < want.length; d++) {
            due("word(" + w + ", " + d + ", 1)", want[d], x.word(w, d, 1));
        }
    }

    private void tells(FlaringWords x, String of, int i, int... want) {
        for (int what = 0; what < want.length; what++) {
            int got = of.equals("flare") ? x.flare(i, what) : x.story(i, what);
            due(of + "(" + i + ", " + what + ")", want[what], got);
        }
    }

    private void holdsPieces(FlaringWords x, int... daysAndSets) {
        due("PIECES", daysAndSets.length / 2, x.told(PIECES));
        for (int i = 0; i < daysAndSets.length; i++) {
            due("at(" + i / 2 + ", " + i % 2 + ")", daysAndSets[i], x.at(i / 2, i % 2));
        }
    }

    private void promise1() {
        promise = 1;
        FlaringWords x = new FlaringWords();
        int[] first = {6, 0, 0, 0, 2, 2, 2, 6, 0, 0, NONE, 0, 0};
        for (int what = 0; what < first.length; what++) {
            due("told(" + what + ")", first[what], x.told(what));
        }
        due("fault()", NONE, x.fault());
        for (int d = 0; d < 6; d++) {
            due("day(d, 0)", 0, x.day(d, 0));
            due("day(d, 1)", 0, x.day(d, 1));
            due("day(d, 2)", NONE, x.day(d, 2));
        }
        due("cost(7)", 0, x.cost(7));
        due("word(7, 5, 2)", 0, x.word(7, 5, 2));
        due("word(7, 5, 3)", 2, x.word(7, 5, 3));
        due("word(7, 5, 4)", 4, x.word(7, 5, 4));
        new FlaringWords().piece(0, 1);
        due("told(1), other object", 0, x.told(PIECES));
    }

    private void promise2() {
        promise = 2;
        FlaringWords x = new FlaringWords();
        due("feed(-1)", OUTSIDE, x.feed(-1));
        due("feed(256)", OUTSIDE, x.feed(256));
        due("feed(LOW)", OUTSIDE, x.feed(LOW));
        due("feed(HIGH)", OUTSIDE, x.feed(HIGH));
        due("told(8)", 0, x.told(TEXT));
        due("feed(0)", 1, x.feed(0));
        due("feed(255)", 2, x.feed(255));
        for (int i = 3; i <= 60; i++) {
            due("feed('0')", i, x.feed('0'));
        }
        due("feed at 60", FULL, x.feed('0'));
        due("feed(256) at 60", OUTSIDE, x.feed(256));
        due("told(8)", 60, x.told(TEXT));
    }

    private void promise3() {
        promise = 3;
        FlaringWords x = new FlaringWords();
        x.piece(5, 255);
        x.days(12);
        feed(x, "10:hcc;11:;1:a;0:ba;9:d;");
        due("pieces()", 6, x.pieces());
        due("told(8)", 0, x.told(TEXT));
        holdsPieces(x, 5, 255, 10, 132, 11, 0, 1, 1, 0, 3, 9, 8);
        due("told(11)", 3, x.told(UNDOABLE));
        due("pieces(), empty", 6, x.pieces());
        due("told(11), empty is a deed", 4, x.told(UNDOABLE));
        feed(x, "0:a;x");
        due("pieces(), fault", -11, x.pieces());
        due("told(8), empty with a fault, too", 0, x.told(TEXT));
        due("told(1), none came", 6, x.told(PIECES));
        due("told(11), a fault is no deed", 4, x.told(UNDOABLE));
    }

    private void faulty(int days, String text, int number, int place) {
        FlaringWords x = new FlaringWords();
        x.days(days);
        feed(x, text);
        due("pieces() of '" + text + "', D " + days, -10 - number, x.pieces());
        due("fault() of '" + text + "', D " + days, place, x.fault());
        due("told(1) of '" + text + "', D " + days, 0, x.told(PIECES));
    }

    private void promise3Faults() {
        promise = 3;
        faulty(6, "x", 1, 0);
        faulty(6, ":", 1, 0);
        faulty(6, ";", 1, 0);
        faulty(6, "a:;", 1, 0);
        faulty(6, "/:;", 1, 0);
        faulty(6, "0", 1, 1);
        faulty(6, "1", 1, 1);
        faulty(6, "0:", 1, 2);
        faulty(6, "0:ab", 1, 4);
        faulty(6, "0;", 1, 1);
        faulty(6, "0::", 1, 2);
        faulty(6, "0:i;", 1, 2);
        faulty(6, "0:`;", 1, 2);
        faulty(6, "0:A;", 1, 2);
        faulty(6, "0:a b;", 1, 3);
        faulty(6, "0:a;;", 1, 4);
        faulty(6, "00:;", 1, 1);
        faulty(6, "01:;", 1, 1);
        faulty(6, "12:;", 1, 1);
        faulty(6, "20:;", 1, 1);
        faulty(6, "6:;", 2, 0);
        faulty(6, "9", 2, 0);
        faulty(6, "6x", 2, 0);
        faulty(6, "10:;", 2, 0);
        faulty(6, "11", 2, 0);
        faulty(6, "0:a;7:x;", 2, 4);
        faulty(6, "0:i;7:x;", 1, 2);
        faulty(10, "10:;", 2, 0);
        faulty(11, "11:;", 2, 0);
        faulty(12, "101:;", 1, 2);
        faulty(12, "111:;", 1, 2);
        faulty(12, "11", 1, 2);
        faulty(1, "1:;", 2, 0);
        faulty(1, "12:;", 2, 0);
        faulty(6, "0:" + "a".repeat(58), 1, 60);
    }

    private void promise3TooMany() {
        promise = 3;
        FlaringWords x = told("0:;".repeat(20), "0:;".repeat(18));
        due("told(1)", 38, x.told(PIECES));
        feed(x, "1:;2:;3:;x");
        due("pieces()", -13, x.pieces());
        due("fault()", 6, x.fault());
        feed(x, "1:;2:;3");
        due("pieces()", -13, x.pieces());
        due("fault()", 6, x.fault());
        feed(x, "1:;2:;9:;");
        due("pieces(), 2 is less than 3", -12, x.pieces());
        due("fault()", 6, x.fault());
        feed(x, "1:;2:;x");
        due("pieces(), 1 cannot be a piece", -11, x.pieces());
        due("told(1)", 38, x.told(PIECES));
        feed(x, "1:;2:;");
        due("pieces()", 40, x.pieces());
        feed(x, "1");
        due("pieces()", -13, x.pieces());
        due("fault()", 0, x.fault());
        due("pieces(), empty", 40, x.pieces());
    }

    private void promise4() {
        promise = 4;
        FlaringWords x = new FlaringWords();
        due("fault()", NONE, x.fault());
        feed(x, "0:a;!");
        due("fault(), not read yet", NONE, x.fault());
        x.pieces();
        due("fault()", 4, x.fault());
        feed(x, "0:a;");
        due("fault(), of the latest pieces()", 4, x.fault());
        x.keep(0);
        x.goBack(0);
        x.piece(0, 0);
        x.undo(1);
        due("fault() stays", 4, x.fault());
        due("told(8) stays", 4, x.told(TEXT));
        due("pieces()", 1, x.pieces());
        due("fault()", NONE, x.fault());
    }

    private void promise5() {
        promise = 5;
        FlaringWords x = flaring();
        due("told(-1)", OUTSIDE, x.told(-1));
        due("told(13)", OUTSIDE, x.told(13));
        due("told(LOW)", OUTSIDE, x.told(LOW));
        due("told(HIGH)", OUTSIDE, x.told(HIGH));
        x.term(0, 3);
        x.feed('0');
        x.write(0, 0, 0);
        x.seed(99);
        int[] want = {3, 6, 3, 1, 3, 3, 1, 2, 1, 1, NONE, 6, 99};
        for (int what = 0; what < want.length; what++) {
            due("told(" + what + ")", want[what], x.told(what));
        }
    }

    private void promise6() {
        promise = 6;
        FlaringWords x = told("3:ah;5:;");
        holdsPieces(x, 3, 129, 5, 0);
        due("at(2, 0)", UNKNOWN, x.at(2, 0));
        due("at(-1, 0)", UNKNOWN, x.at(-1, 0));
        due("at(2, 2)", UNKNOWN, x.at(2, 2));
        due("at(HIGH, LOW)", UNKNOWN, x.at(HIGH, LOW));
        due("at(1, 2)", OUTSIDE, x.at(1, 2));
        due("at(1, -1)", OUTSIDE, x.at(1, -1));
    }

    private void promise7() {
        promise = 7;
        FlaringWords x = flaring();
        int[][] want = {{1, 0, NONE}, {4, 3, 0}, {1, 0, NONE}};
        for (int d = 0; d < 3; d++) {
            for (int what = 0; what < 3; what++) {
                due("day(" + d + ", " + what + ")", want[d][what], x.day(d, what));
            }
        }
        due("day(3, 0)", UNKNOWN, x.day(3, 0));
        due("day(-1, 9)", UNKNOWN, x.day(-1, 9));
        due("day(2, 3)", OUTSIDE, x.day(2, 3));
        due("day(2, -1)", OUTSIDE, x.day(2, -1));
        topOfDay();
    }

    /** WANTED at 0 is 0 for each word here: 4 pieces with it, all 2 or 4 of the day, 40 in all. */
    private void topOfDay() {
        FlaringWords x = new FlaringWords();
        x.term(3, 0);
        x.term(2, 1);
        for (int k = 0; k < 4; k++) {
            x.piece(0, k < 2 ? 6 : k == 2 ? 1 : 8);
        }
        for (int k = 4; k < 40; k++) {
            x.piece(1 + k % 5, 0);
        }
        due("day(0, 1)", 15, x.day(0, 1));
        due("day(0, 2), greatest level, then least word", 1, x.day(0, 2));
        x.take(0);
        x.piece(0, 4);
        due("day(0, 2), greatest level", 2, x.day(0, 2));
        x.term(0, 1);
        due("word(1, 0, 1)", 1, x.word(1, 0, 1));
        due("word(2, 0, 1)", 1, x.word(2, 0, 1));
        due("day(0, 2), like level, greatest count", 2, x.day(0, 2));
    }

    private void promise8() {
        promise = 8;
        FlaringWords x = flaring();
        int[][] a = {{0, 0, 0, 1, 2, NONE}, {4, 2, 2, 3, 4, NONE}, {0, 0, 0, 1, 2, NONE}};
        int[][] b = {{0, 0, 0, 1, 2, NONE}, {2, 1, 1, 2, 3, NONE}, {0, 0, 0, 1, 2, NONE}};
        for (int d = 0; d < 3; d++) {
            for (int what = 0; what < 6; what++) {
                due("word(0, " + d + ", " + what + ")", a[d][what], x.word(0, d, what));
                due("word(1, " + d + ", " + what + ")", b[d][what], x.word(1, d, what));
            }
        }
        x.term(0, 3);
        due("word(0, 1, 5)", 5, x.word(0, 1, 5));
        x.term(0, 1);
        due("word(0, 1, 3)", 3, x.word(0, 1, 3));
        due("word(0, 1, 4)", NONE, x.word(0, 1, 4));
        due("word(8, 0, 0)", UNKNOWN, x.word(8, 0, 0));
        due("word(-1, 0, 0)", UNKNOWN, x.word(-1, 0, 0));
        due("word(0, 3, 0)", UNKNOWN, x.word(0, 3, 0));
        due("word(0, -1, 6)", UNKNOWN, x.word(0, -1, 6));
        due("word(0, 0, 6)", OUTSIDE, x.word(0, 0, 6));
        due("word(0, 0, -1)", OUTSIDE, x.word(0, 0, -1));
    }

    private void promise9() {
        promise = 9;
        FlaringWords x = flaring();
        due("cost(0), two rises", 4, x.cost(0));
        due("cost(1), one rise", 2, x.cost(1));
        due("cost(2)", 0, x.cost(2));
        due("cost(8)", UNKNOWN, x.cost(8));
        due("cost(-1)", UNKNOWN, x.cost(-1));
        due("cost(LOW)", UNKNOWN, x.cost(LOW));
        x.term(3, 99);
        due("cost(0), all at 0", 6, x.cost(0));
        levels(x, 0, 0, 0, 0);
    }

    /**
     * Two days of one piece each, 'a' on the second alone: WANTED at 0 is 0 on both. With BASE 2, STEP 1 and RISE 2
     * the rows 0 0 and 0 1 cost 2 each; with RISE 0 the row 0 1 costs 0.
     */
    private void promise9OfLikeRows() {
        promise = 9;
        FlaringWords x = told("0:;1:a;");
        x.days(2);
        x.term(2, 1);
        x.term(3, 2);
        due("cost(0)", 2, x.cost(0));
        levels(x, 0, 0, 0);
        x.term(3, 0);
        due("cost(0)", 0, x.cost(0));
        levels(x, 0, 0, 1);
        x.term(3, 1);
        due("cost(0)", 1, x.cost(0));
        levels(x, 0, 0, 1);
    }

    /**
     * 'a' 3, 1, 3, 0 times a day, 7 of 40 pieces: WANTED at 0 is 0 on days 0 to 2 and 33 * 7 / 40 = 5 on day 3. With
     * BASE 2 and STEP 3 day 1 costs 2 at level 0 and 4 at level 1: it is left only if rising anew costs 2 at most.
     */
    private void promise9OfRising() {
        promise = 9;
        FlaringWords x = told("0:a;0:a;0:a;1:a;2:a;2:a;2:a;");
        x.days(4);
        for (int k = 7; k < 40; k++) {
            x.piece(3, 0);
        }
        x.term(2, 3);
        due("cost(0), rise 6", 6 + 4 + 10, x.cost(0));
        levels(x, 0, 1, 1, 1, 0);
        tells(x, "flare", 0, 0, 1, 0, 2, NONE, 1000 + 6 - 2 + 6, 0, 0, 0);
        x.term(3, 3);
        levels(x, 0, 1, 1, 1, 0);
        x.term(3, 2);
        due("cost(0), rise 2", 2 + 2 + 2 + 10, x.cost(0));
        levels(x, 0, 1, 0, 1, 0);
        due("told(2)", 2, x.told(FLARES));
        x.term(3, 1);
        due("cost(0), rise 1", 1 + 2 + 1 + 10, x.cost(0));
        levels(x, 0, 1, 0, 1, 0);
    }

    private void promise10() {
        promise = 10;
        FlaringWords x = flaring();
        due("steady(0, 0)", 6, x.steady(0, 0));
        due("steady(0, 1), 3 and 3 and 3, and a rise", 11, x.steady(0, 1));
        due("steady(0, 2), 6 and 0 and 6, and two rises", 16, x.steady(0, 2));
        due("steady(0, 3)", OUTSIDE, x.steady(0, 3));
        due("steady(0, -1)", OUTSIDE, x.steady(0, -1));
        due("steady(8, 0)", UNKNOWN, x.steady(8, 0));
        due("steady(-1, 9)", UNKNOWN, x.steady(-1, 9));
        x.term(0, 3);
        due("steady(0, 3)", 9 + 3 + 9 + 6, x.steady(0, 3));
        x.term(0, 1);
        due("steady(0, 2)", OUTSIDE, x.steady(0, 2));
    }

    private void promise11() {
        promise = 11;
        FlaringWords x = flaring();
        due("told(2)", 3, x.told(FLARES));
        tells(x, "flare", 0, 0, 1, 1, 1, NONE, 1003, 1, 0, 0);
        tells(x, "flare", 1, 0, 2, 1, 1, 0, 1003, 1, 0, NONE);
        tells(x, "flare", 2, 1, 1, 1, 1, NONE, 1003, 1, 0, 0);
        due("flare(3, 0)", UNKNOWN, x.flare(3, 0));
        due("flare(-1, 9)", UNKNOWN, x.flare(-1, 9));
        due("flare(HIGH, 0)", UNKNOWN, x.flare(HIGH, 0));
        due("flare(2, 9)", OUTSIDE, x.flare(2, 9));
        due("flare(2, -1)", OUTSIDE, x.flare(2, -1));
        flareOfMoreDays();
    }

    /**
     * 'a' 1, 3, 3, 1, 0, 0 times a day, 8 of 40 pieces: WANTED at 0 is 0 on days 0 to 3 (3 * 8 / 40) and 3 on days 4
     * and 5 (16 * 8 / 40). With BASE 1, STEP 1 and RISE 0 each day takes the level that fits best.
     */
    private void flareOfMoreDays() {
        FlaringWords x = told("0:a;1:a;1:a;1:a;2:a;2:a;2:a;3:a;");
        for (int k = 8; k < 40; k++) {
            x.piece(4 + k % 2, 0);
        }
        x.term(1, 1);
        x.term(2, 1);
        x.term(3, 0);
        levels(x, 0, 1, 2, 2, 1, 0, 0);
        due("cost(0)", 1 + 1 + 3 + 3, x.cost(0));
        due("told(2)", 2, x.told(FLARES));
        tells(x, "flare", 0, 0, 1, 0, 3, NONE, 1004, 1, 2, 0);
        tells(x, "flare", 1, 0, 2, 1, 2, 0, 1002, 1, 0, NONE);
        flareToTheLastDay();
    }

    private void flareToTheLastDay() {
        FlaringWords x = told("0:;1:a;");
        x.days(2);
        x.term(2, 1);
        x.term(3, 0);
        due("told(2)", 1, x.told(FLARES));
        tells(x, "flare", 0, 0, 1, 1, 1, NONE, 1002, 1, 0, 0);
        manyFlares();
    }

    /** Pieces with all words on days 1, 3 and on to 11; the others of the 40, without words, on day 0. */
    private static FlaringWords everyOtherDay(int onDay1, int onOtherDays) {
        FlaringWords x = new FlaringWords();
        x.days(12);
        for (int d = 1; d < 12; d += 2) {
            for (int n = d == 1 ? onDay1 : onOtherDays; n > 0; n--) {
                x.piece(d, 255);
            }
        }
        while (x.piece(0, 0) != FULL) {
            continue;
        }
        x.term(0, 3);
        x.term(2, 1);
        x.term(3, 0);
        return x;
    }

    /**
     * 4 pieces on day 1 and 3 on each of five other days have all words: WANTED at 0 is 4 * 19 / 40 and 3 * 19 / 40,
     * 1 on all of them, so that the levels are 3 on day 1 and 2 on the others.
     */
    private void manyFlares() {
        FlaringWords x = everyOtherDay(4, 3);
        due("told(2)", 8 * (6 + 6 + 1), x.told(FLARES));
        due("told(3)", 6, x.told(STORIES));
        FlaringWords y = everyOtherDay(4, 3);
        for (int w = 0; w < 8; w++) {
            levels(y, w, 0, 3, 0, 2, 0, 2, 0, 2, 0, 2, 0, 2);
            int own = 13 * w;
            tells(x, "flare", own, w, 1, 1, 1, NONE, 1002, 1, 0, 0);
            tells(x, "flare", own + 5, w, 1, 11, 11, NONE, 1002, 11, 0, 5);
            tells(x, "flare", own + 6, w, 2, 1, 1, own, 1002, 1, 0, NONE);
            tells(x, "flare", own + 11, w, 2, 11, 11, own + 5, 1002, 11, 0, NONE);
            tells(x, "flare", own + 12, w, 3, 1, 1, own + 6, 1002, 1, 0, NONE);
        }
        for (int s = 0; s < 6; s++) {
            tells(x, "story", s, 8, 255, 1 + 2 * s, 1 + 2 * s);
        }
        due("flare(104, 0)", UNKNOWN, x.flare(104, 0));
    }

    /** 'a' once on day 0 and twice on day 1, 3 of 40 pieces: WANTED at 0 is 0 on both. */
    private void promise11PeakAtLast() {
        promise = 11;
        FlaringWords x = told("0:a;1:a;1:a;");
        while (x.piece(3, 0) != FULL) {
            continue;
        }
        x.term(2, 1);
        x.term(3, 0);
        levels(x, 0, 1, 2, 0, 0);
        tells(x, "flare", 0, 0, 1, 0, 1, NONE, 1004, 1, 0, 0);
    }

    /** A level found for a day that there is no more counts for nothing. */
    private void promise11DaysGone() {
        promise = 11;
        FlaringWords x = told("0:;5:a;");
        x.term(2, 1);
        x.term(3, 0);
        due("told(2)", 1, x.told(FLARES));
        x.take(1);
        x.days(5);
        due("told(2)", 0, x.told(FLARES));
        due("word(0, 5, 1)", UNKNOWN, x.word(0, 5, 1));
        x.undo(2);
        x.move(1, 4);
        due("flare(0, 3)", 4, x.flare(0, 3));
        x.days(5);
        due("flare(0, 3)", 4, x.flare(0, 3));
    }

    /** Two separate flares of one word are never tied by themselves, but another word's can tie both. */
    private void promise11Story() {
        promise = 11;
        FlaringWords x = told("0:a;2:a;1:;3:;3:;3:;3:;3:;");
        x.days(4);
        x.term(2, 1);
        x.term(3, 0);
        due("told(2)", 2, x.told(FLARES));
        due("told(3)", 2, x.told(STORIES));
        due("flare(0, 8)", 0, x.flare(0, 8));
        due("flare(1, 8)", 1, x.flare(1, 8));
        x.take(0);
        x.take(0);
        x.take(0);
        feed(x, "0:ab;2:ab;1:b;");
        x.pieces();
        due("told(2)", 3, x.told(FLARES));
        due("told(3)", 1, x.told(STORIES));
        due("flare(0, 8)", 0, x.flare(0, 8));
        due("flare(1, 8)", 0, x.flare(1, 8));
        due("flare(2, 8)", 0, x.flare(2, 8));
        tells(x, "story", 0, 3, 3, 0, 2);
    }

    private void promise12() {
        promise = 12;
        FlaringWords x = flaring();
        due("told(3)", 1, x.told(STORIES));
        tells(x, "story", 0, 2, 3, 1, 1);
        due("story(1, 0)", UNKNOWN, x.story(1, 0));
        due("story(-1, 4)", UNKNOWN, x.story(-1, 4));
        due("story(LOW, 0)", UNKNOWN, x.story(LOW, 0));
        due("story(0, 4)", OUTSIDE, x.story(0, 4));
        due("story(0, -1)", OUTSIDE, x.story(0, -1));
        storiesApart();
    }

    /** A piece with both words ties only if its day is in both flares. */
    private void storiesApart() {
        FlaringWords x = told("0:a;0:b;3:ab;3:;3:;3:;3:;3:;3:;3:;");
        x.days(4);
        x.term(2, 1);
        x.term(3, 0);
        due("told(2)", 2, x.told(FLARES));
        due("told(3), side by side", 2, x.told(STORIES));
        tells(x, "story", 0, 1, 1, 0, 0);
        tells(x, "story", 1, 1, 2, 0, 0);
        x.move(2, 0);
        due("told(3), tied", 1, x.told(STORIES));
        due("story(0, 0), those at 1 alone", 2, x.story(0, 0));
        manyStories();
        heapsJoinedLate();
    }

    /** Six words on each of six days, each in a piece of its own, 6 of 40: WANTED at 0 is 6 * 6 / 40, 0. */
    private void manyStories() {
        FlaringWords x = new FlaringWords();
        x.days(12);
        x.term(2, 1);
        x.term(3, 0);
        for (int d = 1; d < 12; d += 2) {
            for (int w = 0; w < 6; w++) {
                x.piece(d, 1 << w);
            }
        }
        for (int k = 36; k < 40; k++) {
            x.piece(0, 0);
        }
        due("told(2)", 36, x.told(FLARES));
        due("told(3)", 36, x.told(STORIES));
        for (int s = 0; s < 36; s++) {
            tells(x, "story", s, 1, 1 << s / 6, 1 + s % 6 * 2, 1 + s % 6 * 2);
            due("flare(s, 8)", s, x.flare(s, 8));
        }
        due("story(36, 0)", UNKNOWN, x.story(36, 0));
    }

    /** 'a' with 'b' and 'c' with 'd' first, then 'b' with 'd': all one heap; 'e' alone is another. */
    private void heapsJoinedLate() {
        FlaringWords x = told("1:cd;1:ab;1:e;");
        while (x.piece(0, 0) != FULL) {
            continue;
        }
        x.term(2, 1);
        x.term(3, 0);
        due("told(3)", 3, x.told(STORIES));
        tells(x, "story", 0, 2, 3, 1, 1);
        tells(x, "story", 1, 2, 12, 1, 1);
        tells(x, "story", 2, 1, 16, 1, 1);
        x.take(39);
        x.piece(1, 10);
        due("told(3)", 2, x.told(STORIES));
        tells(x, "story", 0, 4, 15, 1, 1);
        tells(x, "story", 1, 1, 16, 1, 1);
        due("flare(2, 8), 'b' at 2", NONE, x.flare(2, 8));
        due("flare(3, 8), 'c'", 0, x.flare(3, 8));
    }

    private void promise13() {
        promise = 13;
        FlaringWords x = told("0:ab;1:ab;2:a;3:h;4:abh;");
        due("together(0, 1)", 3, x.together(0, 1));
        due("together(1, 0)", 3, x.together(1, 0));
        due("together(0, 0)", 4, x.together(0, 0));
        due("together(7, 7)", 2, x.together(7, 7));
        due("together(0, 7)", 1, x.together(0, 7));
        due("together(2, 7)", 0, x.together(2, 7));
        due("together(8, 0)", UNKNOWN, x.together(8, 0));
        due("together(0, 8)", UNKNOWN, x.together(0, 8));
        due("together(-1, 0)", UNKNOWN, x.together(-1, 0));
        due("together(0, -1)", UNKNOWN, x.together(0, -1));
    }

    private void promise14() {
        promise = 14;
        FlaringWords x = new FlaringWords();
        due("piece(5, 255)", 0, x.piece(5, 255));
        due("piece(0, 0)", 1, x.piece(0, 0));
        due("piece(6, 0)", UNKNOWN, x.piece(6, 0));
        due("piece(-1, 256)", UNKNOWN, x.piece(-1, 256));
        due("piece(0, 256)", OUTSIDE, x.piece(0, 256));
        due("piece(0, -1)", OUTSIDE, x.piece(0, -1));
        holdsPieces(x, 5, 255, 0, 0);
        due("told(11)", 2, x.told(UNDOABLE));
        FlaringWords y = full();
        due("piece(0, 0) at 40", FULL, y.piece(0, 0));
        due("piece(6, 0) at 40", UNKNOWN, y.piece(6, 0));
        due("piece(0, 256) at 40", OUTSIDE, y.piece(0, 256));
        due("told(1)", 40, y.told(PIECES));
    }

    private void promise15() {
        promise = 15;
        FlaringWords x = told("0:a;1:b;2:c;");
        due("take(3)", UNKNOWN, x.take(3));
        due("take(-1)", UNKNOWN, x.take(-1));
        due("take(1)", 2, x.take(1));
        holdsPieces(x, 0, 1, 2, 4);
        due("take(1)", 1, x.take(1));
        due("take(1)", UNKNOWN, x.take(1));
        due("take(0)", 0, x.take(0));
        due("take(0)", UNKNOWN, x.take(0));
        due("told(11)", 4, x.told(UNDOABLE));
        FlaringWords y = full();
        due("take(39)", 39, y.take(39));
        due("at(39, 0)", UNKNOWN, y.at(39, 0));
        due("take(0)", 38, y.take(0));
        due("at(37, 1), was 38", 1 << 6, y.at(37, 1));
    }

    private void promise16() {
        promise = 16;
        FlaringWords x = told("0:a;1:b;");
        due("move(1, 5)", 1, x.move(1, 5));
        due("move(1, 0)", 5, x.move(1, 0));
        due("move(1, 0), where it is", 0, x.move(1, 0));
        due("told(11)", 4, x.told(UNDOABLE));
        holdsPieces(x, 0, 1, 0, 2);
        due("move(2, 0)", UNKNOWN, x.move(2, 0));
        due("move(-1, 0)", UNKNOWN, x.move(-1, 0));
        due("move(0, 6)", UNKNOWN, x.move(0, 6));
        due("move(0, -1)", UNKNOWN, x.move(0, -1));
        due("move(HIGH, LOW)", UNKNOWN, x.move(HIGH, LOW));
        due("told(11)", 4, x.told(UNDOABLE));
    }

    private void promise17() {
        promise = 17;
        FlaringWords x = told("2:a;");
        due("days(0)", OUTSIDE, x.days(0));
        due("days(13)", OUTSIDE, x.days(13));
        due("days(LOW)", OUTSIDE, x.days(LOW));
        due("days(2)", NOT, x.days(2));
        due("days(1)", NOT, x.days(1));
        due("told(0)", 6, x.told(DAYS));
        due("told(11)", 1, x.told(UNDOABLE));
        due("days(3)", 6, x.days(3));
        due("days(3), the same", 3, x.days(3));
        due("told(11)", 3, x.told(UNDOABLE));
        due("piece(3, 0)", UNKNOWN, x.piece(3, 0));
        due("days(12)", 3, x.days(12));
        due("piece(11, 0)", 1, x.piece(11, 0));
        due("days(11)", NOT, x.days(11));
        due("take(1)", 1, x.take(1));
        due("take(0)", 0, x.take(0));
        due("days(1)", 12, x.days(1));
        due("told(0)", 1, x.told(DAYS));
    }

    private void promise18() {
        promise = 18;
        int[] least = {1, 1, 1, 0};
        int[] most = {3, 9, 9, 99};
        int[] first = {2, 2, 2, 6};
        for (int which = 0; which < 4; which++) {
            FlaringWords x = new FlaringWords();
            due("term(which, least - 1)", OUTSIDE, x.term(which, least[which] - 1));
            due("term(which, most + 1)", OUTSIDE, x.term(which, most[which] + 1));
            due("term(which, LOW)", OUTSIDE, x.term(which, LOW));
            due("told(11)", 0, x.told(UNDOABLE));
            due("told(4 + which)", first[which], x.told(4 + which));
            due("term(which, least)", first[which], x.term(which, least[which]));
            due("term(which, most)", least[which], x.term(which, most[which]));
            due("term(which, most), the same", most[which], x.term(which, most[which]));
            due("told(4 + which)", most[which], x.told(4 + which));
            due("told(11)", 3, x.told(UNDOABLE));
        }
        FlaringWords x = new FlaringWords();
        due("term(-1, 1)", OUTSIDE, x.term(-1, 1));
        due("term(4, 1)", OUTSIDE, x.term(4, 1));
        due("term(HIGH, 1)", OUTSIDE, x.term(HIGH, 1));
    }

    /** The seed goes 0, 12345, 1406932606, 654583775, 1449466924; / 65536: 0, 21468, 9988, 22117. */
    private void promise19() {
        promise = 19;
        FlaringWords x = new FlaringWords();
        due("drift(0)", OUTSIDE, x.drift(0));
        due("drift(13)", OUTSIDE, x.drift(13));
        due("drift(-1)", OUTSIDE, x.drift(-1));
        due("told(12)", 0, x.told(SEED));
        due("drift(2)", 2, x.drift(2));
        due("told(12)", 1449466924, x.told(SEED));
        holdsPieces(x, 0, 21468 % 256, 9988 % 6, 22117 % 256);
        due("told(11), each is a deed", 2, x.told(UNDOABLE));
        due("undo(1)", 1, x.undo(1));
        due("told(12), the seed stays", 1449466924, x.told(SEED));
        due("drift(12)", 13, x.drift(12));
        FlaringWords y = full();
        due("drift(12) at 40", 40, y.drift(12));
        due("told(12), no room, no draw", 0, y.told(SEED));
        y.take(0);
        due("drift(12) at 39", 40, y.drift(12));
        due("told(12), two draws", 1406932606, y.told(SEED));
    }

    private void promise20() {
        promise = 20;
        FlaringWords x = new FlaringWords();
        due("undo(0)", OUTSIDE, x.undo(0));
        due("undo(17)", OUTSIDE, x.undo(17));
        due("undo(LOW)", OUTSIDE, x.undo(LOW));
        due("undo(1)", NOT, x.undo(1));
        x.piece(0, 1);
        x.piece(1, 2);
        x.piece(2, 4);
        due("undo(4)", NOT, x.undo(4));
        due("told(1)", 3, x.told(PIECES));
        due("undo(2)", 1, x.undo(2));
        due("told(11)", 1, x.told(UNDOABLE));
        holdsPieces(x, 0, 1);
        due("undo(1)", 0, x.undo(1));
        due("undo(1)", NOT, x.undo(1));
        refusedIsNoDeed();
    }

    private void refusedIsNoDeed() {
        FlaringWords x = told("0:a;");
        x.keep(0);
        x.piece(6, 0);
        x.piece(0, 256);
        x.take(1);
        x.move(0, 6);
        x.days(0);
        x.term(0, 4);
        x.drift(0);
        x.undo(1);
        x.write(0, 0, 0);
        x.tear();
        x.seed(5);
        x.feed('0');
        x.pieces();
        due("told(11), asked, refused and others", 0, x.told(UNDOABLE));
    }

    private void promise20EachDeed() {
        promise = 20;
        FlaringWords x = told("0:a;1:b;");
        x.keep(0);
        x.feed('4');
        x.write(0, 0, 3);
        x.seed(17);
        x.piece(3, 7);
        x.take(0);
        x.move(0, 4);
        x.days(9);
        x.term(0, 3);
        x.term(1, 9);
        x.term(2, 8);
        x.term(3, 77);
        feed(x, ":c;");
        x.pieces();
        feed(x, "5");
        due("told(11)", 9, x.told(UNDOABLE));
        holdsPieces(x, 4, 2, 3, 7, 4, 4);
        due("undo(1), pieces()", 2, x.undo(1));
        due("undo(4), terms", 2, x.undo(4));
        int[] terms = {2, 2, 2, 6};
        for (int which = 0; which < 4; which++) {
            due("told(4 + which)", terms[which], x.told(4 + which));
        }
        due("told(0)", 9, x.told(DAYS));
        due("undo(1), days", 2, x.undo(1));
        due("told(0)", 6, x.told(DAYS));
        holdsPieces(x, 4, 2, 3, 7);
        due("undo(1), move", 2, x.undo(1));
        holdsPieces(x, 1, 2, 3, 7);
        due("undo(1), take", 3, x.undo(1));
        holdsPieces(x, 0, 1, 1, 2, 3, 7);
        due("undo(1), piece", 2, x.undo(1));
        holdsPieces(x, 0, 1, 1, 2);
        due("told(8), the text stays", 1, x.told(TEXT));
        due("told(9), the book stays", 1, x.told(ENTRIES));
        due("told(12), the seed stays", 17, x.told(SEED));
    }

    private void promise20Sixteen() {
        promise = 20;
        FlaringWords x = new FlaringWords();
        for (int k = 0; k < 40; k++) {
            x.piece(k % 6, k);
            due("told(11)", Math.min(k + 1, 16), x.told(UNDOABLE));
        }
        due("undo(3)", 37, x.undo(3));
        due("undo(14)", NOT, x.undo(14));
        x.term(3, 9);
        x.take(0);
        due("told(11)", 15, x.told(UNDOABLE));
        x.days(7);
        x.days(8);
        due("told(11)", 16, x.told(UNDOABLE));
        due("undo(16)", 25, x.undo(16));
        due("at(24, 1)", 24, x.at(24, 1));
        due("at(0, 1)", 0, x.at(0, 1));
        due("told(7)", 6, x.told(7));
        due("told(0)", 6, x.told(DAYS));
        due("undo(1)", NOT, x.undo(1));
    }

    private void promise21() {
        promise = 21;
        FlaringWords x = flaring();
        due("write(8, 0, 0)", UNKNOWN, x.write(8, 0, 0));
        due("write(-1, 0, 0)", UNKNOWN, x.write(-1, 0, 0));
        due("write(0, 3, 0)", UNKNOWN, x.write(0, 3, 0));
        due("write(0, -1, 0)", UNKNOWN, x.write(0, -1, 0));
        due("write(0, 1, 2)", 1, x.write(0, 1, 2));
        due("write(1, 1, 1)", 2, x.write(1, 1, 1));
        due("told(10)", NONE, x.told(WRONG));
        due("write(2, 2, 0)", 3, x.write(2, 2, 0));
        due("told(10)", NONE, x.told(WRONG));
        due("write(7, 0, LOW)", 4, x.write(7, 0, LOW));
        due("write(7, 0, HIGH)", 5, x.write(7, 0, HIGH));
        due("told(10)", 3, x.told(WRONG));
        x.term(3, 99);
        due("told(10), now the first", 0, x.told(WRONG));
        x.undo(1);
        due("told(10), undone", 3, x.told(WRONG));
        x.move(5, 0);
        x.days(2);
        due("told(10), a day no more", 2, x.told(WRONG));
        for (int i = 6; i <= 20; i++) {
            due("write(0, 0, 0)", i, x.write(0, 0, 0));
        }
        due("write(0, 0, 0) at 20", FULL, x.write(0, 0, 0));
        due("write(0, 2, 0) at 20", UNKNOWN, x.write(0, 2, 0));
        due("told(9)", 20, x.told(ENTRIES));
    }

    private void promise22() {
        promise = 22;
        FlaringWords x = new FlaringWords();
        due("tear()", 0, x.tear());
        x.write(0, 0, 5);
        x.write(0, 0, 0);
        due("told(10)", 0, x.told(WRONG));
        due("tear()", 2, x.tear());
        due("told(9)", 0, x.told(ENTRIES));
        due("told(10)", NONE, x.told(WRONG));
        due("tear()", 0, x.tear());
        due("write(0, 0, 0)", 1, x.write(0, 0, 0));
        due("told(10)", NONE, x.told(WRONG));
    }

    private void promise23() {
        promise = 23;
        FlaringWords x = new FlaringWords();
        due("seed(-1)", OUTSIDE, x.seed(-1));
        due("seed(LOW)", OUTSIDE, x.seed(LOW));
        due("told(12)", 0, x.told(SEED));
        due("seed(HIGH)", 0, x.seed(HIGH));
        due("seed(HIGH)", HIGH, x.seed(HIGH));
        due("told(12)", HIGH, x.told(SEED));
        due("drift(1)", 1, x.drift(1));
        due("told(12), after two draws", 288979989, x.told(SEED));
        due("seed(0)", 288979989, x.seed(0));
    }

    private void promise24() {
        promise = 24;
        FlaringWords x = told("0:a;");
        due("keep(-1)", UNKNOWN, x.keep(-1));
        due("keep(2)", UNKNOWN, x.keep(2));
        due("keep(HIGH)", UNKNOWN, x.keep(HIGH));
        due("told(11)", 1, x.told(UNDOABLE));
        due("keep(1)", 1, x.keep(1));
        due("told(11)", 0, x.told(UNDOABLE));
        due("undo(1)", NOT, x.undo(1));
        x.piece(1, 2);
        due("keep(1), anew", 1, x.keep(1));
        x.piece(2, 4);
        due("goBack(1)", 1, x.goBack(1));
        holdsPieces(x, 0, 1, 1, 2);
        due("goBack(0)", NOT, x.goBack(0));
    }

    private void promise25() {
        promise = 25;
        FlaringWords x = told("0:a;3:b;");
        due("goBack(0)", NOT, x.goBack(0));
        due("goBack(1)", NOT, x.goBack(1));
        due("goBack(2)", UNKNOWN, x.goBack(2));
        due("goBack(-1)", UNKNOWN, x.goBack(-1));
        due("told(11)", 1, x.told(UNDOABLE));
        x.seed(5);
        x.keep(0);
        x.days(12);
        x.term(0, 3);
        x.term(3, 0);
        x.seed(6);
        x.keep(1);
        x.take(0);
        feed(x, "0:");
        x.write(0, 0, 1);
        due("goBack(0)", 1, x.goBack(0));
        due("told(11)", 0, x.told(UNDOABLE));
        due("told(12)", 5, x.told(SEED));
        due("told(0)", 6, x.told(DAYS));
        due("told(4)", 2, x.told(4));
        due("told(7)", 6, x.told(7));
        due("told(8), the text stays", 2, x.told(TEXT));
        due("told(9), the book stays", 1, x.told(ENTRIES));
        holdsPieces(x, 0, 1, 3, 2);
        x.piece(5, 5);
        due("goBack(1)", 1, x.goBack(1));
        due("told(12)", 6, x.told(SEED));
        due("told(0)", 12, x.told(DAYS));
        due("told(4)", 3, x.told(4));
        holdsPieces(x, 0, 1, 3, 2);
        x.move(0, 4);
        due("day(4, 0)", 1, x.day(4, 0));
        due("goBack(1), once more", 1, x.goBack(1));
        due("day(4, 0)", 0, x.day(4, 0));
        holdsPieces(x, 0, 1, 3, 2);
        due("undo(1)", NOT, x.undo(1));
    }
}
