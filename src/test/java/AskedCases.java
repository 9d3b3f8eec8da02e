/** The boundaries of what is told and asked: promises 1, 5 to 8 and 13; of LEVELS and FLARES see LevelCases. */
final class AskedCases {
    /** STEP 1 and RISE 0: each DAY has the LEVEL that fits it best. */
    private static final String FIT = "term(2, 1)\nterm(3, 0)\n";

    private final Cases cases;

    private AskedCases(Cases cases) {
        this.cases = cases;
    }

    static void all(Cases cases) {
        AskedCases asked = new AskedCases(cases);
        asked.newObject();
        asked.told();
        asked.at();
        asked.day();
        asked.hot();
        asked.top();
        asked.word();
        asked.together();
    }

    private void newObject() {
        cases.of("promise 1: no PIECES, and what else is so at first", """
                told(0) = 6
                told(1) = 0
                told(2) = 0
                told(3) = 0
                told(4) = 2
                told(5) = 2
                told(6) = 2
                told(7) = 6
                told(8) = 0
                told(9) = 0
                told(10) = NONE
                told(11) = 0
                told(12) = 0
                fault() = NONE
                """);
        cases.of("promise 1: there is no PIECE 0, FLARE 0, STORY 0 and no IMAGE yet", """
                at(0, 0) = UNKNOWN
                take(0) = UNKNOWN
                move(0, 0) = UNKNOWN
                flare(0, 0) = UNKNOWN
                story(0, 0) = UNKNOWN
                goBack(0) = NOT
                goBack(1) = NOT
                undo(1) = NOT
                tear() = 0
                """);
        cases.of("promise 1: DAY 5 is the last at first", """
                day(5, 0) = 0
                day(6, 0) = UNKNOWN
                """);
        cases.of("promise 1: without PIECES no LEVEL is above 0 and nothing costs", """
                day(0, 1) = 0
                day(0, 2) = NONE
                word(0, 0, 1) = 0
                cost(0) = 0
                cost(7) = 0
                steady(0, 0) = 0
                # 6 DAYS, 2 times 2 and 2 times 4, and RISE once and twice
                steady(0, 1) = 30
                steady(0, 2) = 60
                together(0, 0) = 0
                """);
    }

    private void told() {
        cases.of("promise 5: told(12) is the last, told(13) and told(-1) are OUTSIDE", """
                seed(7)
                told(12) = 7
                told(13) = OUTSIDE
                told(-1) = OUTSIDE
                told(LOW) = OUTSIDE
                told(HIGH) = OUTSIDE
                """);
        cases.of("promise 5: each number has its own, none of two alike", FIT + """
                days(10)
                term(0, 3)
                term(1, 5)
                term(2, 9)
                term(3, 11)
                seed(77)
                text 0:abcd
                2 times write(0, 0, 0)
                write(0, 0, 1)
                write(0, 0, 0)
                piece(0, 0)
                told(0) = 10
                told(1) = 1
                told(4) = 3
                told(5) = 5
                told(6) = 9
                told(7) = 11
                told(8) = 6
                told(9) = 4
                told(10) = 2
                told(11) = 8
                told(12) = 77
                """);
        cases.of("promise 5: FLARES and STORIES, how many: 0, then 2 in 1, and 0 again", FIT + """
                told(2) = 0
                told(3) = 0
                text 0:ab;1:;
                pieces()
                told(2) = 2
                told(3) = 1
                take(0)
                told(2) = 0
                told(3) = 0
                """);
    }

    private void at() {
        cases.of("promise 6: the last PIECE, and the first that there is not", """
                text 3:ah;5:;
                pieces()
                at(0, 0) = 3
                at(0, 1) = 129
                at(1, 0) = 5
                at(1, 1) = 0
                at(2, 0) = UNKNOWN
                at(-1, 0) = UNKNOWN
                at(LOW, 0) = UNKNOWN
                at(HIGH, 1) = UNKNOWN
                """);
        cases.of("promise 6: PIECE 39 of 40, and no PIECE 40", """
                39 times piece(0, 0)
                piece(5, 255)
                at(39, 0) = 5
                at(39, 1) = 255
                at(40, 0) = UNKNOWN
                at(40, 1) = UNKNOWN
                """);
        cases.of("promise 6: what is 0 or 1, else OUTSIDE", """
                piece(4, 9)
                at(0, 0) = 4
                at(0, 1) = 9
                at(0, 2) = OUTSIDE
                at(0, -1) = OUTSIDE
                at(0, LOW) = OUTSIDE
                at(0, HIGH) = OUTSIDE
                """);
        cases.of("promise 6: UNKNOWN comes ahead of OUTSIDE", """
                piece(4, 9)
                at(1, 2) = UNKNOWN
                at(-1, -1) = UNKNOWN
                """);
    }

    private void day() {
        cases.of("promise 7: DAY 0 and DAY D less 1, and those that there are not", """
                piece(0, 0)
                2 times piece(5, 0)
                day(0, 0) = 1
                day(5, 0) = 2
                day(6, 0) = UNKNOWN
                day(-1, 0) = UNKNOWN
                day(LOW, 0) = UNKNOWN
                day(HIGH, 0) = UNKNOWN
                """);
        cases.of("promise 7: DAY 11 of 12 DAYS, and no DAY 12", """
                days(12)
                piece(11, 0)
                day(11, 0) = 1
                day(12, 0) = UNKNOWN
                """);
        cases.of("promise 7: DAY 0 of one DAY, and no DAY 1", """
                days(1)
                piece(0, 0)
                day(0, 0) = 1
                day(1, 0) = UNKNOWN
                """);
        cases.of("promise 7: what is 0 to 2, else OUTSIDE", """
                day(0, 0) = 0
                day(0, 2) = NONE
                day(0, 3) = OUTSIDE
                day(0, -1) = OUTSIDE
                day(5, LOW) = OUTSIDE
                day(5, HIGH) = OUTSIDE
                """);
        cases.of("promise 7: UNKNOWN comes ahead of OUTSIDE", """
                day(6, 3) = UNKNOWN
                day(-1, -1) = UNKNOWN
                """);
        cases.of("promise 7: ALL, from none to 40, PIECES without WORDS, too", """
                day(3, 0) = 0
                20 times piece(3, 0)
                20 times piece(3, 255)
                day(3, 0) = 40
                day(2, 0) = 0
                """);
    }

    private void hot() {
        cases.of("promise 7: HOT, from no WORD to all of them", FIT + """
                piece(0, 0)
                day(1, 1) = 0
                piece(1, 255)
                day(1, 1) = 255
                day(0, 1) = 0
                """);
        cases.of("promise 7: HOT, WORD 0 is bit 0 and WORD 7 is bit 7", FIT + """
                text 0:;1:a;2:h;
                pieces()
                day(1, 1) = 1
                day(2, 1) = 128
                """);
        cases.of("promise 7: HOT has a WORD by its LEVEL, be its COUNT 0", """
                # staying on DAY 2 costs 1, rising anew 2
                text 0:a;1:a;2:;3:a;4:a;
                pieces()
                days(5)
                term(1, 1)
                term(2, 1)
                term(3, 2)
                word(0, 2, 0) = 0
                day(2, 1) = 1
                day(2, 2) = 0
                """);
    }

    private void top() {
        cases.of("promise 7: TOP is NONE if no LEVEL is above 0, whatever COUNT is", """
                5 times piece(0, 1)
                day(0, 1) = 0
                day(0, 2) = NONE
                """);
        cases.of("promise 7: TOP, the greatest LEVEL goes ahead of a greater COUNT", FIT + """
                # DAY 0: 'a' 3 with WANTED 5 * 8 / 20, 2: LEVEL 1; 'b' 2 with WANTED 5 * 2 / 20, 0: LEVEL 2
                text 0:a;0:a;0:a;0:b;0:b;
                pieces()
                5 times piece(1, 1)
                10 times piece(1, 0)
                word(0, 0, 0) = 3
                word(0, 0, 1) = 1
                word(1, 0, 0) = 2
                word(1, 0, 1) = 2
                day(0, 2) = 1
                """);
        cases.of("promise 7: TOP, of like LEVELS the greatest COUNT", FIT + """
                term(0, 1)
                text 0:a;0:b;0:b;
                pieces()
                20 times piece(1, 0)
                word(0, 0, 1) = 1
                word(1, 0, 1) = 1
                day(0, 2) = 1
                """);
        cases.of("promise 7: TOP, of like LEVELS and COUNTS the least WORD", FIT + """
                text 0:h;0:c;0:b;
                pieces()
                20 times piece(1, 0)
                day(0, 1) = 134
                day(0, 2) = 1
                """);
        cases.of("promise 7: TOP is WORD 7, if it alone is HOT", FIT + """
                text 0:h;1:;
                pieces()
                day(0, 2) = 7
                """);
    }

    private void word() {
        cases.of("promise 8: WORD 0 and WORD 7, and those that there are not", """
                piece(0, 129)
                word(0, 0, 0) = 1
                word(7, 0, 0) = 1
                word(6, 0, 0) = 0
                word(8, 0, 0) = UNKNOWN
                word(-1, 0, 0) = UNKNOWN
                word(32, 0, 0) = UNKNOWN
                word(LOW, 0, 0) = UNKNOWN
                word(HIGH, 0, 0) = UNKNOWN
                """);
        cases.of("promise 8: DAY 0 and DAY D less 1, and those that there are not", """
                piece(5, 1)
                word(0, 0, 0) = 0
                word(0, 5, 0) = 1
                word(0, 6, 0) = UNKNOWN
                word(0, -1, 0) = UNKNOWN
                word(0, LOW, 0) = UNKNOWN
                word(0, HIGH, 0) = UNKNOWN
                """);
        cases.of("promise 8: what is 0 to 5, else OUTSIDE", """
                word(0, 0, 5) = NONE
                word(0, 0, 6) = OUTSIDE
                word(0, 0, -1) = OUTSIDE
                word(0, 0, LOW) = OUTSIDE
                word(0, 0, HIGH) = OUTSIDE
                """);
        cases.of("promise 8: UNKNOWN comes ahead of OUTSIDE", """
                word(8, 0, 6) = UNKNOWN
                word(0, 6, -1) = UNKNOWN
                word(-1, -1, -1) = UNKNOWN
                """);
        cases.of("promise 8: WANTED by a LEVEL that there is not is NONE: L 1", """
                term(0, 1)
                word(0, 0, 2) = 0
                word(0, 0, 3) = 2
                word(0, 0, 4) = NONE
                word(0, 0, 5) = NONE
                """);
        cases.of("promise 8: WANTED by a LEVEL that there is not is NONE: L 2", """
                word(0, 0, 4) = 4
                word(0, 0, 5) = NONE
                """);
        cases.of("promise 8: WANTED by LEVEL 3: L 3", """
                term(0, 3)
                word(0, 0, 4) = 4
                word(0, 0, 5) = 6
                """);
        cases.of("promise 8: COUNT, from none to 40", """
                word(0, 3, 0) = 0
                40 times piece(3, 1)
                word(0, 3, 0) = 40
                word(0, 2, 0) = 0
                word(1, 3, 0) = 0
                """);
    }

    private void together() {
        cases.of("promise 13: WORDS 0 to 7, and those that there are not, as the first and as the second", """
                piece(0, 129)
                together(0, 7) = 1
                together(7, 0) = 1
                together(8, 0) = UNKNOWN
                together(0, 8) = UNKNOWN
                together(-1, 0) = UNKNOWN
                together(0, -1) = UNKNOWN
                together(32, 7) = UNKNOWN
                together(7, 32) = UNKNOWN
                together(LOW, HIGH) = UNKNOWN
                together(8, 8) = UNKNOWN
                """);
        cases.of("promise 13: of one WORD twice: PIECES that have it", """
                text 0:ab;1:a;2:b;3:;
                pieces()
                together(0, 0) = 2
                together(1, 1) = 2
                together(0, 1) = 1
                together(2, 2) = 0
                """);
        cases.of("promise 13: from none to 40, of all DAYS", """
                together(0, 1) = 0
                20 times piece(0, 3)
                20 times piece(5, 255)
                together(0, 1) = 40
                together(0, 2) = 20
                together(0, 0) = 40
                """);
    }
}
