/** The boundaries of THE BOOK, THE SEED and the IMAGES: promises 21 to 25 and WRONG of promise 5. */
final class BookAndImageCases {
    /** On two DAYS with STEP 1 and RISE 0: 'a' is at LEVEL 1 on DAY 1 and at 0 on DAY 0. */
    private static final String FLARING = "text 0:;1:a;\npieces() = 2\nterm(2, 1)\nterm(3, 0)\n";

    private final Cases cases;

    private BookAndImageCases(Cases cases) {
        this.cases = cases;
    }

    static void all(Cases cases) {
        BookAndImageCases both = new BookAndImageCases(cases);
        both.write();
        both.wrong();
        both.tear();
        both.seed();
        both.keep();
        both.goBack();
        both.whatAnImageKeeps();
        both.whatStays();
    }

    private void write() {
        cases.of("promise 21: the 20th entry comes, the 21st is FULL", """
                write(0, 0, 0) = 1
                write(0, 0, 0) = 2
                17 times write(0, 0, 0)
                write(0, 0, 0) = 20
                write(0, 0, 0) = FULL
                told(9) = 20
                """);
        cases.of("promise 21: the entry that was FULL is none", """
                20 times write(0, 0, 0)
                write(0, 0, 5) = FULL
                told(10) = NONE
                """);
        cases.of("promise 21: WORDS 0 and 7, and those that there are not", """
                write(0, 0, 0) = 1
                write(7, 0, 0) = 2
                write(8, 0, 0) = UNKNOWN
                write(-1, 0, 0) = UNKNOWN
                write(32, 0, 0) = UNKNOWN
                write(LOW, 0, 0) = UNKNOWN
                write(HIGH, 0, 0) = UNKNOWN
                told(9) = 2
                """);
        cases.of("promise 21: DAY 0 and DAY D less 1, and those that there are not", """
                write(0, 5, 0) = 1
                write(0, 6, 0) = UNKNOWN
                write(0, -1, 0) = UNKNOWN
                write(0, LOW, 0) = UNKNOWN
                write(0, HIGH, 0) = UNKNOWN
                write(8, 6, 0) = UNKNOWN
                told(9) = 1
                """);
        cases.of("promise 21: UNKNOWN comes ahead of FULL", """
                20 times write(0, 0, 0)
                write(8, 0, 0) = UNKNOWN
                write(0, 6, 0) = UNKNOWN
                write(7, 5, 0) = FULL
                """);
        anyLevel("-1");
        anyLevel("3");
        anyLevel("4");
        anyLevel("LOW");
        anyLevel("HIGH");
        cases.of("promise 21: LEVEL 2, L, is right where it is so, and wrong where there is none such", """
                # 'a' twice on DAY 0, WANTED at LEVEL 0 is 2 * 2 / 5, 0
                text 0:a;0:a;1:;1:;1:;
                pieces()
                term(2, 1)
                term(3, 0)
                write(0, 0, 2) = 1
                told(10) = NONE
                term(0, 1)
                told(10) = 0
                """);
    }

    private void anyLevel(String l) {
        cases.of("promise 21: LEVEL l, any: " + l, "write(0, 0, " + l + ") = 1\ntold(9) = 1\ntold(10) = 0\n");
    }

    private void wrong() {
        cases.of("promise 5: WRONG is NONE without entries, and if all are so", FLARING + """
                told(10) = NONE
                write(0, 1, 1) = 1
                write(0, 0, 0) = 2
                told(10) = NONE
                """);
        cases.of("promise 5: WRONG is the first that is otherwise, not the last", FLARING + """
                write(0, 1, 1)
                write(0, 1, 0)
                write(0, 0, 0)
                write(0, 0, 1)
                told(10) = 1
                """);
        cases.of("promise 5: an entry is of its own WORD and DAY", FLARING + """
                write(1, 1, 0) = 1
                write(0, 0, 0) = 2
                write(7, 1, 0) = 3
                told(10) = NONE
                write(0, 1, 0) = 4
                told(10) = 3
                """);
        cases.of("promise 5: WRONG is from 0 on", """
                write(0, 0, 1)
                told(10) = 0
                """);
        cases.of("promise 5: WRONG is 19, the last of 20", """
                19 times write(7, 5, 0)
                told(10) = NONE
                write(7, 5, 1) = 20
                told(10) = 19
                """);
        cases.of("promise 5: WRONG is judged now, not when it was written", FLARING + """
                write(0, 1, 1)
                told(10) = NONE
                term(3, 99)
                told(10) = 0
                undo(1)
                told(10) = NONE
                """);
        cases.of("promise 5: an entry of a DAY that there is no more is WRONG, also at LEVEL 0", """
                write(0, 0, 0)
                write(0, 5, 0)
                told(10) = NONE
                days(6)
                told(10) = NONE
                days(5)
                told(10) = 1
                """);
        cases.of("promise 5: when the DAY is there again, the entry is judged again", """
                write(0, 5, 0)
                days(1)
                told(10) = 0
                told(9) = 1
                days(12)
                told(10) = NONE
                """);
        cases.of("promise 5: an entry of a DAY that a FLARE once had is WRONG when the DAY is gone", FLARING + """
                write(0, 1, 1)
                move(1, 0)
                days(1)
                told(10) = 0
                """);
    }

    private void tear() {
        cases.of("promise 22: an empty BOOK had none", """
                tear() = 0
                told(9) = 0
                """);
        cases.of("promise 22: a full BOOK had 20, and has room for 20 again", """
                20 times write(0, 0, 1)
                tear() = 20
                told(9) = 0
                told(10) = NONE
                tear() = 0
                write(0, 0, 0) = 1
                told(10) = NONE
                18 times write(0, 0, 0)
                write(0, 0, 0) = 20
                write(0, 0, 0) = FULL
                """);
        cases.of("promise 22: nothing else goes", FLARING + """
                write(0, 0, 0)
                seed(5)
                text 0:
                tear() = 1
                told(1) = 2
                told(8) = 2
                told(11) = 3
                told(12) = 5
                """);
    }

    private void seed() {
        cases.of("promise 23: 0 and 2147483647, -1 is OUTSIDE", """
                seed(-1) = OUTSIDE
                seed(LOW) = OUTSIDE
                told(12) = 0
                seed(2147483647) = 0
                told(12) = 2147483647
                seed(-1) = OUTSIDE
                seed(0) = 2147483647
                told(12) = 0
                """);
        cases.of("promise 23: the answer is what it was, DRAWS counted", """
                drift(1)
                seed(5) = 1406932606
                seed(5) = 5
                """);
        cases.of("promise 23: it is no deed", """
                seed(5) = 0
                told(11) = 0
                undo(1) = NOT
                """);
    }

    private void keep() {
        cases.of("promise 24: IMAGES 0 and 1, and those that there are not", """
                keep(0) = 1
                keep(1) = 1
                keep(2) = UNKNOWN
                keep(-1) = UNKNOWN
                keep(LOW) = UNKNOWN
                keep(HIGH) = UNKNOWN
                """);
        cases.of("promise 24: nothing can be undone then", """
                3 times piece(0, 0)
                keep(1) = 1
                told(11) = 0
                undo(1) = NOT
                told(1) = 3
                """);
        cases.of("promise 24: a refused one leaves what can be undone", """
                3 times piece(0, 0)
                keep(2) = UNKNOWN
                told(11) = 3
                undo(3) = 0
                """);
        cases.of("promise 24: IMAGE 0 kept is no IMAGE 1", """
                keep(0) = 1
                goBack(1) = NOT
                goBack(0) = 1
                """);
        cases.of("promise 24: IMAGE 1 kept is no IMAGE 0", """
                keep(1) = 1
                goBack(0) = NOT
                goBack(1) = 1
                """);
        cases.of("promise 24: kept anew it becomes what is so", """
                piece(0, 1)
                keep(0) = 1
                piece(1, 2)
                keep(0) = 1
                piece(2, 4)
                goBack(0) = 1
                told(1) = 2
                at(1, 1) = 2
                """);
        cases.of("promise 24: two IMAGES side by side", """
                piece(0, 1)
                keep(0) = 1
                piece(1, 2)
                keep(1) = 1
                take(0) = 1
                goBack(0) = 1
                told(1) = 1
                goBack(1) = 1
                told(1) = 2
                at(0, 1) = 1
                """);
    }

    private void goBack() {
        cases.of("promise 25: NOT, if it was not kept", """
                piece(0, 1)
                goBack(0) = NOT
                goBack(1) = NOT
                told(1) = 1
                told(11) = 1
                """);
        cases.of("promise 25: IMAGES that there are not are UNKNOWN, kept or not", """
                piece(0, 1)
                goBack(2) = UNKNOWN
                goBack(-1) = UNKNOWN
                keep(0)
                keep(1)
                piece(0, 1)
                goBack(2) = UNKNOWN
                goBack(-1) = UNKNOWN
                goBack(LOW) = UNKNOWN
                goBack(HIGH) = UNKNOWN
                told(11) = 1
                """);
        cases.of("promise 25: nothing can be undone then", """
                keep(0)
                2 times piece(0, 0)
                told(11) = 2
                goBack(0) = 1
                told(11) = 0
                undo(1) = NOT
                """);
        cases.of("promise 25: a refused one leaves what can be undone", """
                keep(0)
                2 times piece(0, 0)
                goBack(1) = NOT
                undo(2) = 0
                """);
        cases.of("promise 25: an IMAGE can be gone back to again and again", """
                piece(0, 1)
                keep(0)
                take(0) = 0
                goBack(0) = 1
                told(1) = 1
                move(0, 5) = 0
                piece(1, 1) = 1
                goBack(0) = 1
                told(1) = 1
                at(0, 0) = 0
                """);
        cases.of("promise 25: undoing behind it does not reach ahead of it", """
                piece(0, 1)
                keep(0)
                piece(1, 1)
                goBack(0) = 1
                piece(2, 1) = 1
                undo(1) = 1
                at(0, 0) = 0
                undo(1) = NOT
                """);
    }

    private void whatAnImageKeeps() {
        cases.of("promise 25: an IMAGE of no PIECES", """
                keep(0)
                40 times piece(0, 0)
                goBack(0) = 1
                told(1) = 0
                at(0, 0) = UNKNOWN
                piece(0, 0) = 0
                """);
        cases.of("promise 25: an IMAGE of 40 PIECES", """
                39 times piece(0, 0)
                piece(5, 255)
                keep(0)
                take(39)
                take(0)
                goBack(0) = 1
                told(1) = 40
                at(39, 0) = 5
                at(39, 1) = 255
                piece(0, 0) = FULL
                """);
        cases.of("promise 25: D, at its least and at its greatest", """
                days(12)
                keep(0)
                days(1)
                keep(1)
                goBack(0) = 1
                told(0) = 12
                day(11, 0) = 0
                goBack(1) = 1
                told(0) = 1
                day(1, 0) = UNKNOWN
                """);
        cases.of("promise 25: each TERM", """
                keep(0)
                term(0, 3)
                term(1, 9)
                term(2, 8)
                term(3, 0)
                keep(1)
                goBack(0) = 1
                told(4) = 2
                told(5) = 2
                told(6) = 2
                told(7) = 6
                goBack(1) = 1
                told(4) = 3
                told(5) = 9
                told(6) = 8
                told(7) = 0
                """);
        cases.of("promise 25: THE SEED", """
                seed(2147483647)
                keep(0)
                seed(0)
                keep(1)
                drift(3)
                goBack(0) = 1
                told(12) = 2147483647
                goBack(1) = 1
                told(12) = 0
                """);
        cases.of("promise 25: the same DRAWS come again", """
                keep(0)
                drift(1) = 1
                at(0, 1) = 220
                goBack(0) = 1
                drift(1) = 1
                at(0, 0) = 0
                at(0, 1) = 220
                """);
        cases.of("promise 25: LEVELS, FLARES and STORIES are those of the IMAGE", FLARING + """
                keep(0)
                take(1)
                told(2) = 0
                goBack(0) = 1
                told(2) = 1
                told(3) = 1
                day(1, 1) = 1
                """);
    }

    private void whatStays() {
        cases.of("promise 25: THE TEXT is in no IMAGE: it stays", """
                text 0:a
                keep(0)
                feed(';') = 4
                goBack(0) = 1
                told(8) = 4
                pieces() = 1
                keep(1)
                text 1
                goBack(1) = 1
                told(8) = 1
                """);
        cases.of("promise 25: a text read stays read", """
                text 0:a;
                keep(0)
                pieces() = 1
                goBack(0) = 1
                told(1) = 0
                told(8) = 0
                pieces() = 0
                """);
        cases.of("promise 25: THE BOOK is in no IMAGE: it stays", """
                write(0, 0, 0)
                keep(0)
                write(0, 0, 7)
                goBack(0) = 1
                told(9) = 2
                told(10) = 1
                tear() = 2
                goBack(0) = 1
                told(9) = 0
                """);
        cases.of("promise 25: THE BOOK is judged by the IMAGE gone back to", """
                days(1)
                keep(0)
                days(6)
                write(0, 5, 0)
                told(10) = NONE
                goBack(0) = 1
                told(10) = 0
                """);
    }
}
