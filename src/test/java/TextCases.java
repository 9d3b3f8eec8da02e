/** The boundaries of THE TEXT: promises 2, 3 and 4, with section 1's sentences on letters, figures and FAULTS. */
final class TextCases {
    private static final String TWENTY = "0:;".repeat(20);
    private static final String THIRTY_NINE = "39 times piece(0, 0)\n";
    private static final String FORTY = "40 times piece(0, 0)\n";

    private final Cases cases;

    private TextCases(Cases cases) {
        this.cases = cases;
    }

    static void all(Cases cases) {
        TextCases text = new TextCases(cases);
        text.feed();
        text.emptyAndFull();
        text.wordsOfAPiece();
        text.daysOfOneFigure();
        text.daysOfTwoFigures();
        text.cannotStand();
        text.theEnd();
        text.noSuchDay();
        text.aboveForty();
        text.theFirstLetterAndTheLeastFault();
        text.behindAFault();
        text.readWhenAsked();
        text.placeOfTheFault();
    }

    private void sound(String name, String ahead, String text, String rows) {
        cases.of(name, ahead + "text " + text + "\n" + rows + "fault() = NONE\ntold(8) = 0\n");
    }

    /** A text with a FAULT: its number, its place, THE TEXT is empty, no PIECE came, nothing more can be undone. */
    private void fault(String name, String ahead, String text, int number, int place) {
        int pieces = ahead.startsWith(FORTY) ? 40 : ahead.startsWith(THIRTY_NINE) ? 39 : 0;
        String deeds = ahead.isEmpty() ? "told(11) = 0\n" : "";
        cases.of(name, ahead + "text " + text + "\npieces() = " + (-10 - number) + "\nfault() = " + place
                + "\ntold(8) = 0\ntold(1) = " + pieces + "\n" + deeds);
    }

    private static String days(int d) {
        return "days(" + d + ")\n";
    }

    private void feed() {
        cases.of("promise 2: letters 0 and 255 come, -1 and 256 are OUTSIDE", """
                feed(-1) = OUTSIDE
                feed(256) = OUTSIDE
                told(8) = 0
                feed(0) = 1
                feed(255) = 2
                told(8) = 2
                """);
        cases.of("promise 2: a number far out of bounds is OUTSIDE, not the letter left over by 256", """
                feed(304) = OUTSIDE
                feed(-208) = OUTSIDE
                feed(LOW) = OUTSIDE
                feed(HIGH) = OUTSIDE
                pieces() = 0
                """);
        cases.of("promise 2: the 60th letter comes, the 61st is FULL", """
                59 times feed('0')
                told(8) = 59
                feed('0') = 60
                feed('0') = FULL
                told(8) = 60
                """);
        cases.of("promise 2: OUTSIDE comes ahead of FULL", """
                60 times feed('0')
                feed(-1) = OUTSIDE
                feed(256) = OUTSIDE
                feed(0) = FULL
                feed(255) = FULL
                """);
        cases.of("promise 2: the letter that was FULL is no letter of THE TEXT", "text " + TWENTY + """

                feed('x') = FULL
                pieces() = 20
                fault() = NONE
                """);
        cases.of("promise 2: behind pieces() 60 letters come anew, behind a FAULT, too", "text " + TWENTY + """

                pieces() = 20
                feed('x') = 1
                pieces() = -11
                feed('x') = 1
                58 times feed('x')
                feed('x') = 60
                feed('x') = FULL
                """);
        cases.of("promise 2: a letter is no deed and brings no PIECE", """
                text 0:a;
                told(8) = 4
                told(1) = 0
                told(11) = 0
                fault() = NONE
                """);
    }

    private void emptyAndFull() {
        cases.of("promise 3: an empty text is no PIECES more, and a deed, too", """
                pieces() = 0
                fault() = NONE
                told(11) = 1
                piece(3, 7)
                pieces() = 1
                told(11) = 3
                undo(1) = 1
                undo(1) = 0
                """);
        cases.of("promise 3: an empty text is a deed at 40 PIECES, too", FORTY + """
                keep(0)
                pieces() = 40
                fault() = NONE
                told(11) = 1
                """);
        sound("promise 3: the shortest PIECE, without WORDS", "", "0:;", """
                pieces() = 1
                at(0, 0) = 0
                at(0, 1) = 0
                at(1, 0) = UNKNOWN
                """);
        sound("promise 3: 60 letters of 20 PIECES", "", TWENTY.substring(3) + "5:;", """
                pieces() = 20
                at(19, 0) = 5
                at(18, 0) = 0
                told(11) = 1
                """);
        sound("promise 3: 60 letters of one PIECE", "", "0:" + "a".repeat(56) + "h;", """
                pieces() = 1
                at(0, 1) = 129
                """);
        sound("promise 3: they come behind the others, and the answer is PIECES, of all", "piece(5, 255)\npiece(4, 16)\n",
                "3:a;2:b;", """
                pieces() = 4
                at(0, 0) = 5
                at(1, 1) = 16
                at(2, 0) = 3
                at(2, 1) = 1
                at(3, 0) = 2
                at(3, 1) = 2
                """);
        sound("promise 3: the 40th PIECE comes by a text, 20 at once", "20 times piece(1, 1)\n", TWENTY, """
                pieces() = 40
                at(39, 0) = 0
                at(20, 0) = 0
                at(19, 0) = 1
                at(40, 0) = UNKNOWN
                """);
    }

    private void wordsOfAPiece() {
        sound("promise 3: letters 'a' to 'h' are WORDS 0 to 7", "", "0:a;0:h;0:hgfedcba;", """
                pieces() = 3
                at(0, 1) = 1
                at(1, 1) = 128
                at(2, 1) = 255
                """);
        sound("promise 3: a letter twice is once", "", "0:aa;0:bab;", """
                pieces() = 2
                at(0, 1) = 1
                at(1, 1) = 3
                """);
        fault("promise 3: the sign ahead of 'a' cannot stand", "", "0:`;", 1, 2);
        fault("promise 3: 'i', behind 'h', cannot stand", "", "0:i;", 1, 2);
        fault("promise 3: capital letters cannot stand, the first", "", "0:A;", 1, 2);
        fault("promise 3: capital letters cannot stand, the last", "", "0:aH;", 1, 3);
        fault("promise 3: a figure cannot stand among WORDS", "", "0:a1;", 1, 3);
        fault("promise 3: a second ':' cannot stand", "", "0::;", 1, 2);
        fault("promise 3: a ':' cannot stand behind a WORD", "", "0:a:;", 1, 3);
        fault("promise 3: a blank cannot stand among WORDS", "", "0:a b;", 1, 3);
        cases.of("promise 3: letters 0 and 255 cannot stand", """
                text 0:a
                feed(0) = 4
                pieces() = -11
                fault() = 3
                text 0:ab
                feed(255) = 5
                pieces() = -11
                fault() = 4
                """);
    }

    private void daysOfOneFigure() {
        sound("promise 3: DAY D less 1 is there", "", "5:;", "pieces() = 1\nat(0, 0) = 5\n");
        fault("promise 3: DAY D is not there", "", "6:;", 2, 0);
        sound("promise 3: of one DAY, 0 is there", days(1), "0:;", "pieces() = 1\n");
        fault("promise 3: of one DAY, 1 is not there", days(1), "1:;", 2, 0);
        sound("promise 3: '9' is the last DAY of one figure", days(10), "9:;", "pieces() = 1\nat(0, 0) = 9\n");
        fault("promise 3: '9' is not there, if D is 9", days(9), "9:;", 2, 0);
        fault("promise 3: the sign ahead of '0' is no figure", days(12), "/:;", 1, 0);
        fault("promise 3: the sign behind '9' is no figure", days(12), "::;", 1, 0);
        fault("promise 3: a '0' does not belong to a '0'", "", "00:;", 1, 1);
        fault("promise 3: a '1' does not belong to a '0'", "", "01:;", 1, 1);
        fault("promise 3: a '0' does not belong to a '2'", "", "20:;", 1, 1);
        fault("promise 3: a '1' does not belong to a '2'", "", "21:;", 1, 1);
        fault("promise 3: a figure is wanted ahead of ':'", "", ":a;", 1, 0);
        fault("promise 3: a letter cannot stand for a DAY", "", "a:;", 1, 0);
        fault("promise 3: a ';' cannot stand for a DAY", "", ";", 1, 0);
        fault("promise 3: a ';' cannot stand for ':'", "", "0;", 1, 1);
        fault("promise 3: a WORD cannot stand for ':'", "", "0a;", 1, 1);
    }

    private void daysOfTwoFigures() {
        sound("promise 3: '1' alone is DAY 1", days(12), "1:;", "pieces() = 1\nat(0, 0) = 1\n");
        sound("promise 3: '10' is there, if D is 11", days(11), "10:a;", "pieces() = 1\nat(0, 0) = 10\nat(0, 1) = 1\n");
        fault("promise 3: '10' is not there, if D is 10", days(10), "10:a;", 2, 0);
        sound("promise 3: '11' is there, if D is 12", days(12), "11:h;", "pieces() = 1\nat(0, 0) = 11\nat(0, 1) = 128\n");
        fault("promise 3: '11' is not there, if D is 11", days(11), "11:h;", 2, 0);
        fault("promise 3: '12' is DAY 1 with a '2' that cannot stand", days(12), "12:;", 1, 1);
        fault("promise 3: '19' is DAY 1 with a '9' that cannot stand", days(12), "19:;", 1, 1);
        fault("promise 3: a '/' does not belong to a '1'", days(12), "1/:;", 1, 1);
        fault("promise 3: a '0' belongs to a '1', be there no DAY 10 but a DAY 1", days(2), "10:;", 2, 0);
        fault("promise 3: a '1' belongs to a '1', be there no DAY 11 but a DAY 1", days(2), "11:;", 2, 0);
        fault("promise 3: a third figure behind '10' cannot stand", days(12), "100:;", 1, 2);
        fault("promise 3: a third figure behind '11' cannot stand", days(12), "111:;", 1, 2);
        sound("promise 3: DAYS of one and of two figures side by side", days(12), "1:;11:;1:;10:;0:;", """
                pieces() = 5
                at(0, 0) = 1
                at(1, 0) = 11
                at(2, 0) = 1
                at(3, 0) = 10
                at(4, 0) = 0
                """);
    }

    private void cannotStand() {
        fault("promise 3: a second ';' cannot stand", "", "0:;;", 1, 3);
        fault("promise 3: a ':' cannot stand behind ';'", "", "0:;:", 1, 3);
        fault("promise 3: a WORD cannot stand behind ';'", "", "0:;a", 1, 3);
        fault("promise 3: a blank cannot stand behind ';'", "", "0:; 0:;", 1, 3);
        fault("promise 3: the last of 60 letters cannot stand", "", TWENTY.substring(0, 59) + "x", 1, 59);
        fault("promise 3: the 60th letter alone cannot stand", "", "0:" + "a".repeat(57) + "0", 1, 59);
    }

    private void theEnd() {
        fault("promise 3: the end behind a figure, at the text's length", "", "0", 1, 1);
        fault("promise 3: the end behind a '1'", "", "1", 1, 1);
        fault("promise 3: the end behind two figures", days(12), "10", 1, 2);
        fault("promise 3: the end behind ':'", "", "0:", 1, 2);
        fault("promise 3: the end behind a WORD", "", "0:a", 1, 3);
        fault("promise 3: the end of the second PIECE", "", "0:a;1", 1, 5);
        fault("promise 3: the end behind 60 letters", "", "0:" + "a".repeat(58), 1, 60);
    }

    private void noSuchDay() {
        fault("promise 3: a DAY that there is not, and the end behind it", "", "6", 2, 0);
        fault("promise 3: a DAY that there is not, and a letter behind it that cannot stand", "", "6x", 2, 0);
        fault("promise 3: DAY 10 that there is not, and the end behind it", "", "10", 2, 0);
        fault("promise 3: DAY 11 that there is not, at its first figure", "", "0:;11x", 2, 3);
        fault("promise 3: a DAY that there is not in the last PIECE: none comes", "", "0:a;1:b;6:c;", 2, 8);
        fault("promise 3: the greatest figure at the first D", "", "9:;", 2, 0);
    }

    private void aboveForty() {
        sound("promise 3: the 40th PIECE in all comes", THIRTY_NINE, "5:h;", "pieces() = 40\nat(39, 1) = 128\n");
        fault("promise 3: the 41st, at its first figure", FORTY, "0:;", 3, 0);
        fault("promise 3: the 41st, those of this text, too: none of them comes", THIRTY_NINE, "0:;0:;", 3, 3);
        fault("promise 3: the 41st, and the end behind its first figure", FORTY, "0", 3, 0);
        fault("promise 3: the 41st, and a letter behind it that cannot stand", FORTY, "0x", 3, 0);
        fault("promise 3: the 41st, of two figures, at the first of them", FORTY + days(12), "11:;", 3, 0);
        cases.of("promise 3: the 41st, of two texts of 20 and one of one", "text " + TWENTY + "\npieces() = 20\ntext "
                + TWENTY + """

                pieces() = 40
                text 0:;
                pieces() = -13
                fault() = 0
                told(1) = 40
                """);
        cases.of("promise 3: a PIECE taken makes room for one by a text", FORTY + """
                take(7) = 39
                text 1:;2:;
                pieces() = -13
                text 1:;
                pieces() = 40
                """);
    }

    private void theFirstLetterAndTheLeastFault() {
        fault("promise 3: at one letter 2 is less than 3", FORTY, "6:;", 2, 0);
        fault("promise 3: at one letter 2 is less than 3, behind the 40th, too", THIRTY_NINE, "0:;6:;", 2, 3);
        fault("promise 3: at one letter 2 is less than 3, of two figures", FORTY, "10:;", 2, 0);
        fault("promise 3: what is no figure begins no PIECE, so it is 1, not 3", FORTY, "x", 1, 0);
        fault("promise 3: what is no figure begins no PIECE, behind the 40th, too", THIRTY_NINE, "0:;x", 1, 3);
        fault("promise 3: 1 at an earlier letter than 2", "", "0:x;6:;", 1, 2);
        fault("promise 3: 2 at an earlier letter than 1", "", "6:;0:x;", 2, 0);
        fault("promise 3: 1 at an earlier letter than 3", THIRTY_NINE, "0:x;0:;", 1, 2);
        fault("promise 3: 3 at an earlier letter than 1", THIRTY_NINE, "0:;0:x;", 3, 3);
        fault("promise 3: 3 at an earlier letter than 2", THIRTY_NINE, "0:;0:;6:;", 3, 3);
        fault("promise 3: 2 at an earlier letter than 3", THIRTY_NINE, "6:;0:;0:;", 2, 0);
        fault("promise 3: the end of the 40th is 1", THIRTY_NINE, "0:", 1, 2);
    }

    private void behindAFault() {
        cases.of("promise 3: with a FAULT no PIECE comes, nor does one of that text come later", """
                text 0:a;1:b;x
                pieces() = -11
                told(1) = 0
                at(0, 0) = UNKNOWN
                pieces() = 0
                text 2:c;
                pieces() = 1
                at(0, 0) = 2
                at(0, 1) = 4
                """);
        cases.of("promise 3: pieces() with a FAULT is no deed", """
                piece(0, 1)
                text 6:;
                pieces() = -12
                told(11) = 1
                undo(1) = 0
                """);
        cases.of("promise 3: pieces() with a FAULT leaves what else there is", """
                piece(0, 1)
                write(0, 0, 0)
                seed(9)
                term(3, 5)
                days(7)
                text x
                pieces() = -11
                told(0) = 7
                told(1) = 1
                told(7) = 5
                told(9) = 1
                told(11) = 3
                told(12) = 9
                at(0, 1) = 1
                """);
    }

    private void readWhenAsked() {
        cases.of("promise 3: the DAYS that count are those at pieces(): more of them", """
                text 6:;
                days(7) = 6
                pieces() = 1
                at(0, 0) = 6
                """);
        cases.of("promise 3: the DAYS that count are those at pieces(): fewer of them", """
                text 5:;
                days(5) = 6
                pieces() = -12
                """);
        cases.of("promise 3: the room that counts is that at pieces()", """
                text 0:;
                40 times piece(0, 0)
                pieces() = -13
                told(1) = 40
                """);
    }

    private void placeOfTheFault() {
        cases.of("promise 4: NONE ahead of the first pieces()", """
                fault() = NONE
                text x
                fault() = NONE
                """);
        cases.of("promise 4: places are from 0 on, to the text's length", """
                text x
                pieces() = -11
                fault() = 0
                text 0
                pieces() = -11
                fault() = 1
                """);
        cases.of("promise 4: it stays until the next pieces()", """
                text 0:x
                pieces() = -11
                text 0:a;
                fault() = 2
                pieces() = 1
                fault() = NONE
                """);
        cases.of("promise 4: NONE behind an empty text", """
                text 0:x
                pieces() = -11
                fault() = 2
                pieces() = 0
                fault() = NONE
                """);
        cases.of("promise 4: it is that of the latest pieces(), also behind undo(), keep() and goBack()", """
                text 0:a;
                pieces() = 1
                keep(0) = 1
                piece(0, 0) = 1
                text 0:b
                pieces() = -11
                undo(1) = 1
                fault() = 3
                goBack(0) = 1
                fault() = 3
                keep(1) = 1
                fault() = 3
                """);
    }
}
