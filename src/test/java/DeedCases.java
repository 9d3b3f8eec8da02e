/** The boundaries of the deeds: promises 14 to 20, with section 3's sentences on draws and on what is undone. */
final class DeedCases {
    private static final String THREE = "text 0:a;1:b;2:c;\npieces() = 3\n";
    private static final String FORTY = "39 times piece(0, 1)\npiece(5, 128)\n";

    private final Cases cases;

    private DeedCases(Cases cases) {
        this.cases = cases;
    }

    static void all(Cases cases) {
        DeedCases deeds = new DeedCases(cases);
        deeds.piece();
        deeds.take();
        deeds.move();
        deeds.days();
        deeds.daysNot();
        deeds.term();
        deeds.drift();
        deeds.draws();
        deeds.undo();
        deeds.whatIsADeed();
        deeds.whatIsNoDeed();
        deeds.sixteen();
        deeds.eachUndone();
        deeds.whatStays();
    }

    private void piece() {
        cases.of("promise 14: numbers from 0 to 39, the 41st is FULL", """
                piece(0, 0) = 0
                piece(0, 0) = 1
                37 times piece(0, 0)
                piece(5, 255) = 39
                piece(0, 0) = FULL
                told(1) = 40
                at(39, 1) = 255
                """);
        cases.of("promise 14: DAY 0 and DAY D less 1, and those that there are not", """
                piece(0, 1) = 0
                piece(5, 1) = 1
                piece(6, 1) = UNKNOWN
                piece(-1, 1) = UNKNOWN
                piece(LOW, 1) = UNKNOWN
                piece(HIGH, 1) = UNKNOWN
                told(1) = 2
                """);
        cases.of("promise 14: DAY 11 of 12, and no DAY 12", """
                days(12)
                piece(11, 1) = 0
                piece(12, 1) = UNKNOWN
                """);
        cases.of("promise 14: DAY 0 of one DAY, and no DAY 1", """
                days(1)
                piece(0, 1) = 0
                piece(1, 1) = UNKNOWN
                """);
        cases.of("promise 14: SETS 0 and 255, -1 and 256 are OUTSIDE", """
                piece(0, 0) = 0
                piece(0, 255) = 1
                piece(0, 256) = OUTSIDE
                piece(0, -1) = OUTSIDE
                piece(0, LOW) = OUTSIDE
                piece(0, HIGH) = OUTSIDE
                at(0, 1) = 0
                at(1, 1) = 255
                told(1) = 2
                """);
        cases.of("promise 14: UNKNOWN comes ahead of OUTSIDE", """
                piece(6, 256) = UNKNOWN
                piece(-1, -1) = UNKNOWN
                """);
        cases.of("promise 14: UNKNOWN and OUTSIDE come ahead of FULL", FORTY + """
                piece(6, 0) = UNKNOWN
                piece(0, 256) = OUTSIDE
                piece(6, 256) = UNKNOWN
                piece(0, 0) = FULL
                """);
        cases.of("promise 14: the 512th call of an object is answered as each", """
                511 times term(3, 6)
                piece(5, 255) = 0
                """);
        cases.of("promise 14: behind a PIECE taken there is room for one", FORTY + """
                take(0) = 39
                piece(2, 2) = 39
                piece(2, 2) = FULL
                """);
    }

    private void take() {
        cases.of("promise 15: PIECE 0 and the last one, and those that there are not", THREE + """
                take(3) = UNKNOWN
                take(-1) = UNKNOWN
                take(LOW) = UNKNOWN
                take(HIGH) = UNKNOWN
                take(2) = 2
                take(2) = UNKNOWN
                take(0) = 1
                take(1) = UNKNOWN
                """);
        cases.of("promise 15: the only one, then there is none", """
                piece(0, 1)
                take(0) = 0
                take(0) = UNKNOWN
                told(1) = 0
                """);
        cases.of("promise 15: later ones have one number less, earlier ones keep theirs", THREE + """
                take(1) = 2
                at(0, 0) = 0
                at(0, 1) = 1
                at(1, 0) = 2
                at(1, 1) = 4
                at(2, 0) = UNKNOWN
                """);
        cases.of("promise 15: PIECE 39 of 40, and PIECE 0 of 39", FORTY + """
                take(40) = UNKNOWN
                take(0) = 39
                at(38, 0) = 5
                at(38, 1) = 128
                take(39) = UNKNOWN
                take(38) = 38
                at(37, 0) = 0
                at(38, 0) = UNKNOWN
                """);
    }

    private void move() {
        cases.of("promise 16: DAY 0 and DAY D less 1, and those that there are not", THREE + """
                move(1, 5) = 1
                move(1, 0) = 5
                move(1, 6) = UNKNOWN
                move(1, -1) = UNKNOWN
                move(1, LOW) = UNKNOWN
                move(1, HIGH) = UNKNOWN
                at(1, 0) = 0
                """);
        cases.of("promise 16: PIECE 0 and the last one, and those that there are not", THREE + """
                move(0, 5) = 0
                move(2, 5) = 2
                move(3, 0) = UNKNOWN
                move(-1, 0) = UNKNOWN
                move(HIGH, 0) = UNKNOWN
                move(3, 6) = UNKNOWN
                """);
        cases.of("promise 16: it keeps its number and its WORDS", THREE + """
                move(1, 4) = 1
                at(1, 0) = 4
                at(1, 1) = 2
                at(0, 0) = 0
                at(2, 0) = 2
                told(1) = 3
                """);
        cases.of("promise 16: to the DAY that it is of: a deed, be it that it changed nothing", THREE + """
                move(1, 1) = 1
                told(11) = 2
                at(1, 0) = 1
                """);
        cases.of("promise 16: PIECE 39 of 40 to DAY 11 of 12", FORTY + """
                days(12)
                move(39, 11) = 5
                move(40, 11) = UNKNOWN
                move(39, 12) = UNKNOWN
                at(39, 0) = 11
                """);
    }

    private void days() {
        cases.of("promise 17: 1 and 12, 0 and 13 are OUTSIDE", """
                days(0) = OUTSIDE
                days(13) = OUTSIDE
                days(-1) = OUTSIDE
                days(LOW) = OUTSIDE
                days(HIGH) = OUTSIDE
                told(0) = 6
                days(1) = 6
                told(0) = 1
                days(12) = 1
                told(0) = 12
                """);
        cases.of("promise 17: the D that it is: a deed, be it that it changed nothing", """
                days(6) = 6
                told(0) = 6
                told(11) = 1
                """);
    }

    private void daysNot() {
        cases.of("promise 17: the last DAY with a PIECE can be the last one; one fewer is NOT", THREE + """
                days(2) = NOT
                days(1) = NOT
                told(0) = 6
                days(3) = 6
                days(2) = NOT
                told(0) = 3
                """);
        cases.of("promise 17: OUTSIDE comes ahead of NOT", THREE + """
                days(0) = OUTSIDE
                days(-1) = OUTSIDE
                """);
        cases.of("promise 17: a PIECE without WORDS holds its DAY, too, be it the first of many", """
                piece(11, 0) = UNKNOWN
                days(12) = 6
                piece(11, 0) = 0
                38 times piece(0, 1)
                days(11) = NOT
                move(0, 10) = 11
                days(11) = 12
                days(10) = NOT
                """);
        cases.of("promise 17: no longer NOT when the PIECE is taken or moved", THREE + """
                take(2) = 2
                days(2) = 6
                days(1) = NOT
                move(1, 0) = 1
                days(1) = 2
                """);
        cases.of("promise 17: a taken PIECE does not come back by its number", FORTY + """
                take(39) = 39
                days(1) = 6
                piece(0, 2) = 39
                days(1) = 1
                """);
    }

    private void term() {
        bounds("promise 18: LEVELS 1 to 3, 2 at first", 0, 1, 3, 2);
        bounds("promise 18: BASE 1 to 9, 2 at first", 1, 1, 9, 2);
        bounds("promise 18: STEP 1 to 9, 2 at first", 2, 1, 9, 2);
        bounds("promise 18: RISE 0 to 99, 6 at first", 3, 0, 99, 6);
        cases.of("promise 18: TERMS 0 to 3, -1 and 4 are OUTSIDE", """
                term(-1, 2) = OUTSIDE
                term(4, 2) = OUTSIDE
                term(LOW, 2) = OUTSIDE
                term(HIGH, 2) = OUTSIDE
                term(4, 100) = OUTSIDE
                told(11) = 0
                """);
        cases.of("promise 18: each TERM is one of its own", """
                term(0, 3) = 2
                term(1, 4) = 2
                term(2, 5) = 2
                term(3, 7) = 6
                told(4) = 3
                told(5) = 4
                told(6) = 5
                told(7) = 7
                """);
    }

    private void bounds(String name, int which, int least, int most, int first) {
        String term = "term(" + which + ", ";
        String told = "told(" + (4 + which) + ") = ";
        cases.of(name, term + (least - 1) + ") = OUTSIDE\n" + term + (most + 1) + ") = OUTSIDE\n" + term
                + "LOW) = OUTSIDE\n" + term + "HIGH) = OUTSIDE\n" + told + first + "\n" + term + least + ") = " + first
                + "\n" + told + least + "\n" + term + most + ") = " + least + "\n" + told + most + "\n" + term
                + (most + 1) + ") = OUTSIDE\n" + told + most + "\n" + "told(11) = 2\n");
        cases.of(name + "; as it is: a deed, be it that it changed nothing",
                term + first + ") = " + first + "\n" + told + first + "\ntold(11) = 1\n");
    }

    private void drift() {
        cases.of("promise 19: 1 and 12, 0 and 13 are OUTSIDE", """
                drift(0) = OUTSIDE
                drift(13) = OUTSIDE
                drift(-1) = OUTSIDE
                drift(LOW) = OUTSIDE
                drift(HIGH) = OUTSIDE
                told(12) = 0
                drift(1) = 1
                drift(12) = 13
                """);
        cases.of("promise 19: while there is room: one more at 39, by two DRAWS", """
                39 times piece(0, 0)
                drift(12) = 40
                told(12) = 1406932606
                at(39, 0) = 0
                at(39, 1) = 220
                """);
        cases.of("promise 19: none at 40, no DRAW and no deed; it is not refused", """
                40 times piece(0, 0)
                keep(0)
                drift(12) = 40
                drift(1) = 40
                told(12) = 0
                told(11) = 0
                """);
        cases.of("promise 19: OUTSIDE at 40 PIECES, too", """
                40 times piece(0, 0)
                drift(0) = OUTSIDE
                drift(13) = OUTSIDE
                """);
        cases.of("promise 19: exactly as many as there is room for", """
                28 times piece(0, 0)
                drift(12) = 40
                piece(0, 0) = FULL
                """);
        cases.of("promise 19: each PIECE BY DRAWS is a deed", """
                drift(12) = 12
                told(11) = 12
                undo(1) = 11
                undo(11) = 0
                """);
    }

    private void draws() {
        cases.of("promise 19: THE SEED at first, the DAY is drawn ahead of the SET", """
                # 12345, 1406932606, 654583775, 1449466924; / 65536: 0, 21468, 9988, 22117
                drift(2) = 2
                at(0, 0) = 0
                at(0, 1) = 220
                at(1, 0) = 4
                at(1, 1) = 101
                told(12) = 1449466924
                """);
        cases.of("promise 19: THE SEED at its greatest, left over by 2 to the 31", """
                # 1043980748, 288979989; / 65536: 15929, 4409
                seed(HIGH)
                drift(1) = 1
                told(12) = 288979989
                at(0, 0) = 5
                at(0, 1) = 57
                """);
        cases.of("promise 19: the DRAW of D, of one DAY", """
                # 15929, 4409 and 9862, 26718
                days(1)
                seed(HIGH)
                drift(2) = 2
                at(0, 0) = 0
                at(0, 1) = 57
                at(1, 0) = 0
                at(1, 1) = 94
                """);
        cases.of("promise 19: the DRAW of D, of 12 DAYS", """
                # 15929 left over by 12, and 9862
                days(12)
                seed(HIGH)
                drift(2) = 2
                at(0, 0) = 5
                at(1, 0) = 10
                """);
        cases.of("promise 19: drifts go on from THE SEED, one of 2 as two of 1", """
                drift(1) = 1
                drift(1) = 2
                told(12) = 1449466924
                at(1, 0) = 4
                at(1, 1) = 101
                """);
    }

    private void undo() {
        cases.of("promise 20: 1 and 16, 0 and 17 are OUTSIDE", """
                16 times piece(0, 0)
                undo(0) = OUTSIDE
                undo(17) = OUTSIDE
                undo(-1) = OUTSIDE
                undo(LOW) = OUTSIDE
                undo(HIGH) = OUTSIDE
                told(1) = 16
                undo(16) = 0
                """);
        cases.of("promise 20: NOT, where nothing can be undone", """
                undo(1) = NOT
                undo(16) = NOT
                piece(0, 0)
                undo(1) = 0
                undo(1) = NOT
                """);
        cases.of("promise 20: as many as there are, and NOT one more", """
                3 times piece(0, 0)
                undo(4) = NOT
                told(1) = 3
                told(11) = 3
                undo(3) = 0
                told(11) = 0
                """);
        cases.of("promise 20: OUTSIDE comes ahead of NOT", """
                undo(0) = OUTSIDE
                undo(17) = OUTSIDE
                """);
        cases.of("promise 20: the latest first, and undone in two steps as in one", """
                piece(0, 1)
                piece(0, 2)
                piece(0, 4)
                piece(0, 8)
                undo(1) = 3
                at(2, 1) = 4
                undo(2) = 1
                at(0, 1) = 1
                told(11) = 1
                """);
        cases.of("promise 20: undoing is no deed: it is not undone", """
                piece(0, 1)
                piece(0, 2)
                undo(1) = 1
                told(11) = 1
                undo(1) = 0
                undo(1) = NOT
                """);
        cases.of("promise 20: behind undoing, other deeds come", """
                piece(0, 1)
                piece(0, 2)
                undo(1) = 1
                piece(3, 64) = 1
                told(11) = 2
                undo(1) = 1
                at(0, 1) = 1
                at(1, 0) = UNKNOWN
                """);
    }

    private void whatIsADeed() {
        cases.of("promise 20: pieces(), piece(), take(), move(), days(), term(), a PIECE BY DRAWS are deeds", """
                text 0:a;
                pieces() = 1
                told(11) = 1
                piece(0, 1) = 1
                told(11) = 2
                take(1) = 1
                told(11) = 3
                move(0, 1) = 0
                told(11) = 4
                days(7) = 6
                told(11) = 5
                term(0, 1) = 2
                told(11) = 6
                drift(2) = 3
                told(11) = 8
                """);
        cases.of("promise 20: deeds that changed nothing are undone, too", """
                piece(2, 1)
                pieces() = 1
                move(0, 2) = 2
                days(6) = 6
                term(3, 6) = 6
                told(11) = 5
                undo(4) = 1
                told(11) = 1
                undo(1) = 0
                """);
    }

    private void whatIsNoDeed() {
        cases.of("promise 20: what is refused is no deed", """
                40 times piece(3, 0)
                keep(0)
                piece(0, 0) = FULL
                piece(6, 0) = UNKNOWN
                piece(0, 256) = OUTSIDE
                take(40) = UNKNOWN
                move(40, 0) = UNKNOWN
                days(3) = NOT
                days(13) = OUTSIDE
                term(0, 4) = OUTSIDE
                drift(13) = OUTSIDE
                undo(1) = NOT
                text 0:;
                pieces() = -13
                told(11) = 0
                """);
        cases.of("promise 20: feed(), write(), tear(), seed() are no deeds", """
                piece(0, 0)
                feed('0')
                write(0, 0, 0)
                seed(5)
                tear() = 1
                told(11) = 1
                undo(1) = 0
                """);
    }

    private void sixteen() {
        cases.of("promise 20: 16 at most are kept, the 17th deed drops the first", """
                15 times piece(0, 0)
                told(11) = 15
                piece(0, 0)
                told(11) = 16
                piece(0, 0)
                told(11) = 16
                undo(16) = 1
                told(11) = 0
                undo(1) = NOT
                """);
        cases.of("promise 20: 16 of 32 deeds, then 16 more", """
                32 times piece(0, 0)
                undo(16) = 16
                undo(1) = NOT
                16 times piece(1, 1)
                told(11) = 16
                undo(16) = 16
                undo(1) = NOT
                """);
        cases.of("promise 20: 16 at most of PIECES BY DRAWS, too", """
                drift(12) = 12
                drift(12) = 24
                told(11) = 16
                undo(16) = 8
                """);
        cases.of("promise 20: none since the IMAGE, be it kept or gone back to", """
                piece(0, 1)
                keep(0) = 1
                told(11) = 0
                undo(1) = NOT
                piece(0, 2)
                told(11) = 1
                goBack(0) = 1
                told(11) = 0
                undo(1) = NOT
                told(1) = 1
                """);
        cases.of("promise 20: 16 at most since the IMAGE", """
                keep(0)
                17 times piece(0, 0)
                told(11) = 16
                """);
    }

    private void eachUndone() {
        cases.of("promise 20: pieces() undone, all PIECES of the text at once", """
                piece(5, 5)
                text 0:a;1:b;2:c;
                pieces() = 4
                undo(1) = 1
                at(0, 1) = 5
                at(1, 0) = UNKNOWN
                """);
        cases.of("promise 20: take() undone, the PIECE has its number again", THREE + """
                take(0) = 2
                undo(1) = 3
                at(0, 0) = 0
                at(0, 1) = 1
                at(1, 1) = 2
                at(2, 0) = 2
                at(2, 1) = 4
                """);
        cases.of("promise 20: take() undone at 40, and FULL again", FORTY + """
                take(39) = 39
                undo(1) = 40
                at(39, 1) = 128
                piece(0, 0) = FULL
                """);
        cases.of("promise 20: move() undone", THREE + """
                move(2, 5) = 2
                undo(1) = 3
                at(2, 0) = 2
                """);
        cases.of("promise 20: days() undone, up and down", """
                days(12) = 6
                days(1) = 12
                undo(1) = 0
                told(0) = 12
                day(11, 0) = 0
                undo(1) = 0
                told(0) = 6
                day(6, 0) = UNKNOWN
                """);
        cases.of("promise 20: a PIECE of a DAY that was gone is there again with its DAY", """
                piece(5, 1)
                take(0) = 0
                days(1) = 6
                undo(2) = 1
                told(0) = 6
                at(0, 0) = 5
                day(5, 0) = 1
                """);
        cases.of("promise 20: each TERM undone", """
                term(0, 3)
                term(1, 9)
                term(2, 8)
                term(3, 0)
                undo(1) = 0
                told(7) = 6
                told(6) = 8
                undo(1) = 0
                told(6) = 2
                told(5) = 9
                undo(1) = 0
                told(5) = 2
                told(4) = 3
                undo(1) = 0
                told(4) = 2
                """);
        cases.of("promise 20: LEVELS and FLARES are as ahead, too", """
                text 0:a;1:;
                pieces()
                term(2, 1)
                term(3, 0)
                told(2) = 1
                day(0, 1) = 1
                undo(1) = 2
                told(2) = 0
                day(0, 1) = 0
                """);
    }

    private void whatStays() {
        cases.of("promise 20: THE SEED stays", """
                seed(5)
                drift(1) = 1
                seed(9)
                undo(1) = 0
                told(12) = 9
                """);
        cases.of("promise 20: THE SEED stays as the DRAWS have left it", """
                drift(1) = 1
                undo(1) = 0
                told(12) = 1406932606
                """);
        cases.of("promise 20: THE BOOK stays", """
                piece(0, 0)
                write(0, 0, 0)
                write(0, 0, 5)
                undo(1) = 0
                told(9) = 2
                told(10) = 1
                """);
        cases.of("promise 20: a BOOK torn stays so", """
                write(0, 0, 5)
                piece(0, 0)
                tear() = 1
                undo(1) = 0
                told(9) = 0
                """);
        cases.of("promise 20: THE TEXT stays, that read stays read", """
                text 0:a;
                pieces() = 1
                text 1:b
                undo(1) = 0
                told(8) = 3
                feed(';') = 4
                pieces() = 1
                at(0, 0) = 1
                at(0, 1) = 2
                """);
        cases.of("promise 20: IMAGES stay", """
                keep(0)
                piece(0, 1)
                undo(1) = 0
                goBack(0) = 1
                goBack(1) = NOT
                """);
    }
}
