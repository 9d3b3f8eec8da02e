/** The boundaries of section 2: WANTED, LEVELS and their costs, FLARES, STORIES; promises 8 to 12. */
final class LevelCases {
    /** STEP 1 and RISE 0: each DAY has the LEVEL that fits it best. */
    private static final String FIT = "term(2, 1)\nterm(3, 0)\n";

    /**
     * Two DAYS of 20 PIECES, 'a' in all of DAY 0: WANTED at LEVEL 0 is 20 * 20 / 40, 10 on both; with BASE 9 UNLIKELY
     * at LEVEL 0 is 90 on both.
     */
    private static final String TWO_DAYS = "20 times piece(0, 1)\n20 times piece(1, 0)\ndays(2)\nterm(1, 9)\n";

    /** 'a' on all of five DAYS but DAY 2: WANTED at LEVEL 0 is 4 / 5, 0. With BASE and STEP 1 a DAY's fit is worth 1. */
    private static final String FIVE_DAYS = "text 0:a;1:a;2:;3:a;4:a;\npieces()\ndays(5)\nterm(1, 1)\nterm(2, 1)\n";

    /**
     * 'a' 3, 1, 2, 0, 2, 0 times a DAY, 8 of 40 PIECES: WANTED at LEVEL 0 is 0 on DAYS 0 to 4, 32 * 8 / 40, 6 on DAY
     * 5, so that LEVELS are 3, 1, 2, 0, 2, 0.
     */
    private static final String PEAKS = "text 0:a;0:a;0:a;1:a;2:a;2:a;4:a;4:a;\npieces()\n32 times piece(5, 0)\n"
            + "term(0, 3)\n" + FIT;

    private final Cases cases;

    private LevelCases(Cases cases) {
        this.cases = cases;
    }

    static void all(Cases cases) {
        LevelCases levels = new LevelCases(cases);
        levels.wanted();
        levels.cost();
        levels.likeRows();
        levels.rising();
        levels.steady();
        levels.flare();
        levels.flareDays();
        levels.within();
        levels.weightPeakFade();
        levels.mostFlares();
        levels.story();
        levels.tied();
        levels.storyNumbers();
        levels.mostStories();
    }

    private void wanted() {
        cases.of("promise 8: WANTED is 0 without PIECES, also if there were some", """
                word(0, 0, 2) = 0
                piece(0, 1)
                word(0, 0, 2) = 1
                take(0)
                word(0, 0, 2) = 0
                word(0, 0, 3) = 2
                """);
        cases.of("promise 8: WANTED cuts, behind the multiplying", """
                # 2 * 2 / 3 and 1 * 2 / 3
                text 0:a;0:a;1:;
                pieces()
                word(0, 0, 2) = 1
                word(0, 1, 2) = 0
                # 2 * 2 / 4
                piece(1, 0)
                word(0, 0, 2) = 1
                word(0, 1, 2) = 1
                """);
        cases.of("promise 8: WANTED, 0 for a WORD of no PIECE and for a DAY of none", """
                4 times piece(0, 1)
                word(1, 0, 2) = 0
                word(0, 1, 2) = 0
                word(0, 0, 2) = 4
                """);
        cases.of("promise 8: WANTED at its greatest, and STEP at each further LEVEL", """
                40 times piece(0, 1)
                term(0, 3)
                term(2, 9)
                word(0, 0, 2) = 40
                word(0, 0, 3) = 49
                word(0, 0, 4) = 58
                word(0, 0, 5) = 67
                """);
        cases.of("promise 8: LEVEL, from 0 to the L of 3", PEAKS + """
                word(0, 0, 1) = 3
                word(0, 1, 1) = 1
                word(0, 2, 1) = 2
                word(0, 3, 1) = 0
                word(0, 4, 1) = 2
                word(0, 5, 1) = 0
                """);
        cases.of("promise 8: LEVEL is L at most", PEAKS + """
                term(0, 2)
                word(0, 0, 1) = 2
                word(0, 2, 1) = 2
                term(0, 1)
                word(0, 0, 1) = 1
                word(0, 2, 1) = 1
                """);
    }

    private void cost() {
        cases.of("promise 9: WORD 0 and WORD 7, and those that there are not", """
                text 0:h;1:;
                pieces()
                cost(0) = 0
                cost(7) = 2
                cost(8) = UNKNOWN
                cost(-1) = UNKNOWN
                cost(32) = UNKNOWN
                cost(LOW) = UNKNOWN
                cost(HIGH) = UNKNOWN
                """);
        cases.of("promise 9: UNLIKELY is how far, be COUNT above WANTED or below it", TWO_DAYS + """
                term(3, 99)
                cost(0) = 180
                """);
        cases.of("promise 9: BASE at its least and at its greatest", TWO_DAYS + """
                term(3, 99)
                term(1, 1)
                cost(0) = 20
                term(1, 9)
                cost(0) = 180
                """);
        cases.of("promise 9: of one DAY, COUNT is WANTED: nothing costs and no LEVEL is above 0", FIT + """
                days(1)
                10 times piece(0, 1)
                30 times piece(0, 6)
                cost(0) = 0
                cost(1) = 0
                cost(3) = 0
                told(2) = 0
                """);
    }

    private void likeRows() {
        cases.of("promise 9: of like ROWS the least LEVEL of DAY 0", """
                # STEP 1 and RISE 2: 0 0 costs 2, 1 0 costs 2
                text 0:a;1:;
                pieces()
                days(2)
                term(2, 1)
                term(3, 2)
                word(0, 0, 1) = 0
                cost(0) = 2
                term(3, 1)
                word(0, 0, 1) = 1
                cost(0) = 1
                """);
        cases.of("promise 9: of like ROWS the least LEVEL of the last DAY", """
                text 0:;1:a;
                pieces()
                days(2)
                term(2, 1)
                term(3, 2)
                word(0, 1, 1) = 0
                cost(0) = 2
                term(3, 1)
                word(0, 1, 1) = 1
                cost(0) = 1
                """);
        cases.of("promise 9: of like ROWS the least LEVEL of a DAY between: 1 0 1, not 1 1 1", FIVE_DAYS + """
                term(3, 1)
                cost(0) = 2
                word(0, 1, 1) = 1
                word(0, 2, 1) = 0
                word(0, 3, 1) = 1
                """);
        cases.of("promise 9: of like ROWS that at 0, where 0, 1 and 2 cost the same", TWO_DAYS + """
                # STEP 5: DAY 0 costs 90, 45 and 0
                term(2, 5)
                term(3, 45)
                word(0, 0, 1) = 0
                cost(0) = 180
                """);
        cases.of("promise 9: without RISE a DAY between two LEVELS has the lower one", FIT + """
                # 'a' once, STEP 2: LEVEL 0 is 1 off and so is LEVEL 1
                term(2, 2)
                text 0:a;1:;
                pieces()
                word(0, 0, 1) = 0
                word(0, 0, 3) = 2
                term(2, 1)
                word(0, 0, 1) = 1
                """);
    }

    private void rising() {
        cases.of("promise 9: on DAY 0 RISE counts above 0", TWO_DAYS + """
                # STEP 9: LEVEL 1 costs RISE and 9 on DAY 0, LEVEL 0 costs 90
                term(2, 9)
                term(3, 81)
                word(0, 0, 1) = 0
                cost(0) = 180
                term(3, 80)
                word(0, 0, 1) = 1
                cost(0) = 179
                """);
        cases.of("promise 9: RISE for each by which a LEVEL is above, falling is free", TWO_DAYS + """
                # STEP 5: DAY 0 costs 90, 45 and 0, DAY 1 is at LEVEL 0
                term(2, 5)
                term(3, 44)
                word(0, 0, 1) = 2
                word(0, 1, 1) = 0
                cost(0) = 178
                """);
        cases.of("promise 9: RISE 0, rising is free", TWO_DAYS + """
                term(2, 5)
                term(3, 0)
                word(0, 0, 1) = 2
                cost(0) = 90
                """);
        cases.of("promise 9: RISE 99 holds LEVELS down", TWO_DAYS + """
                term(2, 9)
                term(3, 99)
                word(0, 0, 1) = 0
                told(2) = 0
                cost(0) = 180
                """);
        cases.of("promise 9: rising again from a LEVEL above 0 counts from there", PEAKS + """
                # rising by 3, 1 and 2; DAY 5 is 6 off
                term(1, 9)
                term(3, 1)
                word(0, 0, 1) = 3
                word(0, 1, 1) = 1
                word(0, 2, 1) = 2
                word(0, 3, 1) = 0
                word(0, 4, 1) = 2
                cost(0) = 60
                """);
    }

    private void steady() {
        cases.of("promise 10: LEVELS 0 to L, L 2, else OUTSIDE", TWO_DAYS + """
                term(3, 99)
                steady(0, 0) = 180
                # DAY 0 is 8 off, DAY 1 is 12 off
                steady(0, 1) = 279
                # DAY 0 is 6 off, DAY 1 is 14 off
                steady(0, 2) = 378
                steady(0, 3) = OUTSIDE
                steady(0, -1) = OUTSIDE
                steady(0, LOW) = OUTSIDE
                steady(0, HIGH) = OUTSIDE
                """);
        cases.of("promise 10: LEVELS 0 to L, L 1", """
                term(0, 1)
                steady(0, 1) = 30
                steady(0, 2) = OUTSIDE
                """);
        cases.of("promise 10: LEVELS 0 to L, L 3; 4 is OUTSIDE always", """
                term(0, 3)
                steady(0, 3) = 90
                steady(0, 4) = OUTSIDE
                """);
        cases.of("promise 10: RISE times l, too, 0 and 99", TWO_DAYS + """
                term(0, 3)
                term(2, 9)
                term(3, 0)
                # DAY 0 is 17 off, DAY 1 is 37 off
                steady(0, 3) = 486
                term(3, 99)
                steady(0, 3) = 783
                steady(0, 0) = 180
                """);
        cases.of("promise 10: WORD 7, and those that there are not, ahead of OUTSIDE", """
                steady(7, 0) = 0
                steady(8, 0) = UNKNOWN
                steady(-1, 0) = UNKNOWN
                steady(32, 0) = UNKNOWN
                steady(8, 3) = UNKNOWN
                steady(-1, -1) = UNKNOWN
                """);
    }

    private void flare() {
        cases.of("promise 11: the last FLARE, and the first that there is not", PEAKS + """
                told(2) = 6
                flare(5, 1) = 3
                flare(6, 0) = UNKNOWN
                flare(-1, 0) = UNKNOWN
                flare(LOW, 0) = UNKNOWN
                flare(HIGH, 0) = UNKNOWN
                """);
        cases.of("promise 11: what is 0 to 8, else OUTSIDE", PEAKS + """
                flare(0, 0) = 0
                flare(0, 8) = 0
                flare(0, 9) = OUTSIDE
                flare(0, -1) = OUTSIDE
                flare(0, LOW) = OUTSIDE
                flare(0, HIGH) = OUTSIDE
                """);
        cases.of("promise 11: UNKNOWN comes ahead of OUTSIDE", PEAKS + """
                flare(6, 9) = UNKNOWN
                flare(-1, -1) = UNKNOWN
                """);
        cases.of("promise 11: numbered by WORD, then l, then FIRST", FIT + """
                text 0:h;2:h;2:h;3:a;3:a;
                pieces()
                35 times piece(5, 0)
                told(2) = 5
                flare(0, 0) = 0
                flare(0, 1) = 1
                flare(1, 0) = 0
                flare(1, 1) = 2
                flare(2, 0) = 7
                flare(2, 1) = 1
                flare(2, 2) = 0
                flare(3, 0) = 7
                flare(3, 1) = 1
                flare(3, 2) = 2
                flare(4, 0) = 7
                flare(4, 1) = 2
                flare(4, 2) = 2
                """);
        cases.of("promise 11: a FLARE is no more when its PIECE is taken, and is again when that is undone", FIT + """
                text 0:a;1:;
                pieces()
                flare(0, 0) = 0
                take(0)
                flare(0, 0) = UNKNOWN
                undo(1)
                flare(0, 0) = 0
                """);
    }

    private void flareDays() {
        cases.of("promise 11: a FLARE of DAY 0 alone", FIT + """
                text 0:a;1:;
                pieces()
                told(2) = 1
                flare(0, 2) = 0
                flare(0, 3) = 0
                """);
        cases.of("promise 11: a FLARE of the last DAY alone, DAY 11", FIT + """
                days(12)
                text 11:a;1:;
                pieces()
                told(2) = 1
                flare(0, 2) = 11
                flare(0, 3) = 11
                """);
        cases.of("promise 11: a FLARE of all DAYS, over a DAY without the WORD", FIVE_DAYS + """
                term(3, 2)
                cost(0) = 3
                told(2) = 1
                flare(0, 2) = 0
                flare(0, 3) = 4
                """);
        cases.of("promise 11: two FLARES of two DAYS each, longest rows, where RISE is 1 less", FIVE_DAYS + """
                term(3, 1)
                told(2) = 2
                flare(0, 2) = 0
                flare(0, 3) = 1
                flare(1, 2) = 3
                flare(1, 3) = 4
                """);
        cases.of("promise 11: no FLARE, where RISE is 1 more", FIVE_DAYS + """
                term(3, 3)
                told(2) = 0
                flare(0, 0) = UNKNOWN
                cost(0) = 4
                """);
        cases.of("promise 11: a FLARE at 1 has the DAYS of LEVEL 2 and 3, too", PEAKS + """
                flare(0, 1) = 1
                flare(0, 2) = 0
                flare(0, 3) = 2
                flare(1, 1) = 1
                flare(1, 2) = 4
                flare(1, 3) = 4
                """);
        cases.of("promise 11: the LEVEL of a DAY that there is no more is in no FLARE", FIT + """
                text 0:;5:a;
                pieces()
                told(2) = 1
                move(1, 4)
                days(5)
                told(2) = 1
                flare(0, 2) = 4
                flare(0, 3) = 4
                take(1)
                days(4)
                told(2) = 0
                """);
        cases.of("promise 11: a FLARE ends with the last DAY that there is", FIT + """
                text 0:;4:a;
                pieces()
                days(5)
                told(2) = 1
                flare(0, 3) = 4
                days(12)
                told(2) = 1
                flare(0, 3) = 4
                """);
    }

    private void within() {
        cases.of("promise 11: WITHIN, NONE at l 1", PEAKS + """
                flare(0, 4) = NONE
                flare(1, 4) = NONE
                """);
        cases.of("promise 11: WITHIN, two at l 2 in one at l 1, the third in another", PEAKS + """
                flare(2, 4) = 0
                flare(3, 4) = 0
                flare(4, 4) = 1
                """);
        cases.of("promise 11: WITHIN, at l 3 in that at l 2, not in that at l 1", PEAKS + """
                flare(5, 1) = 3
                flare(5, 4) = 2
                """);
        cases.of("promise 11: WITHIN, in a FLARE of its own WORD", FIT + """
                text 0:a;0:a;0:b;0:b;
                pieces()
                36 times piece(5, 0)
                told(2) = 4
                flare(1, 4) = 0
                flare(2, 4) = NONE
                flare(3, 4) = 2
                """);
    }

    private void weightPeakFade() {
        cases.of("promise 11: WEIGHT and 1000, of all its DAYS together", PEAKS + """
                flare(0, 5) = 1006
                flare(1, 5) = 1002
                flare(2, 5) = 1002
                flare(5, 5) = 1002
                """);
        cases.of("promise 11: WEIGHT, a DAY that fits LEVEL 0 better takes away from it", FIVE_DAYS + """
                term(3, 2)
                flare(0, 5) = 1003
                """);
        cases.of("promise 11: WEIGHT at its greatest BASE and STEP", TWO_DAYS + """
                # 90 less 9 on DAY 0
                term(2, 9)
                term(3, 0)
                told(2) = 1
                flare(0, 5) = 1081
                """);
        cases.of("promise 11: PEAK, of like COUNTS the first DAY", FIVE_DAYS + """
                term(3, 2)
                flare(0, 6) = 0
                flare(0, 7) = 0
                """);
        cases.of("promise 11: PEAK on FIRST, FADE is COUNT there less that on LAST", PEAKS + """
                flare(0, 6) = 0
                flare(0, 7) = 1
                """);
        cases.of("promise 11: PEAK on LAST, FADE is 0", FIT + """
                text 1:a;2:a;2:a;
                pieces()
                37 times piece(5, 0)
                flare(0, 2) = 1
                flare(0, 3) = 2
                flare(0, 6) = 2
                flare(0, 7) = 0
                """);
        cases.of("promise 11: PEAK is one of its DAYS, be COUNT greater on the DAYS beside it", FIT + """
                # 'a' 3, 2, 3 times, 8 of 40: WANTED at LEVEL 0 is 20 * 8 / 40, 4, then 0, then 18 * 8 / 40, 3
                text 0:a;0:a;0:a;1:a;1:a;2:a;2:a;2:a;
                pieces()
                17 times piece(0, 0)
                15 times piece(2, 0)
                flare(0, 2) = 1
                flare(0, 3) = 1
                flare(0, 5) = 1002
                flare(0, 6) = 1
                flare(0, 7) = 0
                """);
        cases.of("promise 11: PEAK between, of two like ones the first", FIT + """
                text 0:a;1:a;1:a;2:a;2:a;3:a;
                pieces()
                34 times piece(5, 0)
                flare(0, 3) = 3
                flare(0, 6) = 1
                flare(0, 7) = 1
                """);
    }

    /**
     * All WORDS 4 times on three DAYS and twice on three others, 18 of 40: WANTED at LEVEL 0 is 4 * 18 / 40, 1 and 0,
     * so that LEVELS are 3 and 2: 6 FLARES at 1, 6 at 2, 3 at 3 for each WORD.
     */
    private void mostFlares() {
        cases.of("promise 11: 120 FLARES, 15 of each WORD", FIT + """
                days(12)
                term(0, 3)
                4 times piece(1, 255)
                4 times piece(3, 255)
                4 times piece(5, 255)
                2 times piece(7, 255)
                2 times piece(9, 255)
                2 times piece(11, 255)
                22 times piece(0, 0)
                told(2) = 120
                told(3) = 6
                flare(14, 0) = 0
                flare(14, 1) = 3
                flare(14, 2) = 5
                flare(14, 4) = 8
                flare(15, 0) = 1
                flare(119, 0) = 7
                flare(119, 1) = 3
                flare(119, 3) = 5
                flare(119, 4) = 113
                flare(119, 8) = NONE
                flare(110, 8) = 5
                flare(120, 0) = UNKNOWN
                """);
    }

    private void story() {
        cases.of("promise 12: the last STORY, and the first that there is not", PEAKS + """
                told(3) = 2
                story(1, 2) = 4
                story(2, 0) = UNKNOWN
                story(-1, 0) = UNKNOWN
                story(LOW, 0) = UNKNOWN
                story(HIGH, 0) = UNKNOWN
                """);
        cases.of("promise 12: what is 0 to 3, else OUTSIDE", PEAKS + """
                story(0, 0) = 1
                story(0, 3) = 2
                story(0, 4) = OUTSIDE
                story(0, -1) = OUTSIDE
                story(0, LOW) = OUTSIDE
                story(0, HIGH) = OUTSIDE
                """);
        cases.of("promise 12: UNKNOWN comes ahead of OUTSIDE", PEAKS + """
                story(2, 4) = UNKNOWN
                story(-1, -1) = UNKNOWN
                """);
        cases.of("promise 12: FLARES above 1 are in no STORY", PEAKS + """
                flare(1, 8) = 1
                flare(2, 8) = NONE
                flare(5, 8) = NONE
                story(0, 0) = 1
                story(1, 0) = 1
                """);
    }

    private void tied() {
        cases.of("promise 12: TIED by one PIECE on the LAST of one and the FIRST of the other", FIT + """
                text 0:a;1:ab;2:b;
                pieces()
                37 times piece(5, 0)
                told(2) = 2
                told(3) = 1
                story(0, 0) = 2
                story(0, 1) = 3
                story(0, 2) = 0
                story(0, 3) = 2
                """);
        cases.of("promise 12: FIRST and LAST are of all its FLARES, be they not those of its first FLARE", FIT + """
                # 'a' on DAYS 1 and 2, 'b' on DAYS 0 and 1, 'c' on DAYS 2 and 3
                text 1:ab;2:ac;0:b;3:c;
                pieces()
                36 times piece(5, 0)
                told(2) = 3
                told(3) = 1
                flare(0, 2) = 1
                flare(0, 3) = 2
                story(0, 2) = 0
                story(0, 3) = 3
                """);
        cases.of("promise 12: not TIED by two PIECES of one DAY, each with one WORD", FIT + """
                text 0:a;1:a;1:b;2:b;
                pieces()
                36 times piece(5, 0)
                told(2) = 2
                told(3) = 2
                story(0, 1) = 1
                story(1, 1) = 2
                """);
        cases.of("promise 12: not TIED by a PIECE of a DAY that is in one of both", FIT + """
                # 'a' on DAY 1: WANTED 5 * 4 / 8, 2, COUNT 1
                text 0:a;0:a;0:a;1:ab;1:;1:;1:;1:;
                pieces()
                day(0, 1) = 1
                day(1, 1) = 2
                told(3) = 2
                """);
        cases.of("promise 12: not TIED by a PIECE of a DAY that is in none of both", FIT + """
                text 0:a;1:b;3:ab;
                pieces()
                37 times piece(3, 0)
                day(3, 1) = 0
                told(2) = 2
                told(3) = 2
                """);
        cases.of("promise 12: two FLARES of one WORD are one STORY only by another WORD's", FIT + """
                text 0:ab;1:b;2:b;3:b;4:ab;
                pieces()
                15 times piece(5, 0)
                told(2) = 3
                told(3) = 1
                flare(0, 8) = 0
                flare(1, 8) = 0
                flare(2, 8) = 0
                story(0, 0) = 3
                take(4)
                piece(4, 1)
                told(2) = 3
                told(3) = 2
                """);
        cases.of("promise 12: hanging together over a third", FIT + """
                text 0:ab;0:bc;
                pieces()
                38 times piece(5, 0)
                together(0, 2) = 0
                told(3) = 1
                story(0, 0) = 3
                story(0, 1) = 7
                """);
        cases.of("promise 12: one PIECE with all WORDS ties all", FIT + """
                text 0:;1:hgfedcba;
                pieces()
                told(3) = 1
                story(0, 0) = 8
                story(0, 1) = 255
                story(0, 2) = 1
                story(0, 3) = 1
                """);
    }

    private void storyNumbers() {
        cases.of("promise 12: numbered by their first FLARES", FIT + """
                text 0:ad;0:b;0:c;
                pieces()
                37 times piece(5, 0)
                told(3) = 3
                flare(0, 8) = 0
                flare(1, 8) = 1
                flare(2, 8) = 2
                flare(3, 8) = 0
                story(0, 1) = 9
                story(1, 1) = 2
                story(2, 1) = 4
                """);
        cases.of("promise 12: STORIES are those of now: none of what was is in them", FIT + """
                text 0:ab;1:abc;2:c;
                pieces()
                37 times piece(5, 0)
                story(0, 0) = 3
                story(0, 1) = 7
                story(0, 2) = 0
                story(0, 3) = 2
                take(2)
                take(1)
                take(0)
                piece(1, 8)
                told(3) = 1
                story(0, 0) = 1
                story(0, 1) = 8
                story(0, 2) = 1
                story(0, 3) = 1
                story(1, 0) = UNKNOWN
                """);
        cases.of("promise 12: of one WORD the earlier FLARE's STORY has the lower number", FIT + """
                text 4:a;0:a;2:a;
                pieces()
                37 times piece(5, 0)
                told(3) = 3
                story(0, 2) = 0
                story(1, 2) = 2
                story(2, 2) = 4
                """);
    }

    /**
     * 40 PIECES of one WORD each, each WORD on five of six DAYS: WANTED at LEVEL 0 is 7 * 5 / 40, 0; no more STORIES
     * than PIECES can be.
     */
    private void mostStories() {
        StringBuilder rows = new StringBuilder(FIT + "days(12)\n");
        int[] dayWithout = {0, 1, 2, 3, 4, 4, 5, 5};
        for (int w = 0; w < 8; w++) {
            for (int i = 0; i < 6; i++) {
                if (i != dayWithout[w]) {
                    rows.append("piece(").append(1 + 2 * i).append(", ").append(1 << w).append(")\n");
                }
            }
        }
        cases.of("promise 12: 40 STORIES of one FLARE each", rows + """
                told(1) = 40
                told(2) = 40
                told(3) = 40
                story(0, 2) = 3
                story(39, 0) = 1
                story(39, 1) = 128
                story(39, 2) = 9
                story(39, 3) = 9
                story(40, 0) = UNKNOWN
                flare(39, 8) = 39
                flare(40, 0) = UNKNOWN
                """);
    }
}
