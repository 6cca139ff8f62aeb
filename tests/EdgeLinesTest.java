/** The edges that the document names in LINES, POURING and CHANGES: a test for each sentence. */
public final class EdgeLinesTest {
    private static final int NONE = PouredScreen.NONE;
    private static final int STATE = PouredScreen.STATE;

    private static final Check check = new Check("EdgeLinesTest");

    public static void main(String[] args) {
        rowsThatCount();
        historyCounts();
        rowsOfALine();
        lastRowThatCounts();
        numbersOfLines();
        cellsOfRowsThatGoOn();
        cellsOfTheLastRow();
        signsOfALine();
        fullestLine();
        marks();
        marksBehindTheCells();
        eachLineInANewRow();
        roomForASign();
        lineWithoutSigns();
        atLeastAsManyRows();
        fewerRows();
        latestRowsOfTheHistory();
        markOfASign();
        markBehindTheSigns();
        cursorInALineWithoutSigns();
        pendingBehindPouring();
        pendingWhetherBeforeOrNot();
        keptOnesAreNotPending();
        offTheScreen();
        keptOnesOffTheScreen();
        changesThatChangeNothing();
        refusedAreNotRecorded();
        eightStates();
        latestState();
        allOfAState();
        check.end();
    }

    // ---- LINES

    private static void rowsThatCount() {
        check.sentence("LINES, promises 16 and 21", "those of the screen from row 0 to the last one that is not wholly blank, "
            + "has the cursor, or has a kept cursor.");
        check.due("a blank screen", new PouredScreen().told(8), 1);
        for (int row = 0; row < 4; row++) {
            PouredScreen x = new PouredScreen();
            x.moveTo(row, 9);
            check.due("the cursor in row " + row, x.told(8), row + 1);
            x.keep();
            x.moveTo(0, 0);
            check.due("a kept cursor in row " + row, x.told(8), row + 1);
            x.keep();
            x.keep();
            check.due("the first of three kept ones in row " + row, x.told(8), row + 1);
            x = new PouredScreen();
            x.moveTo(row, 9);
            x.feed('x');
            x.moveTo(0, 0);
            check.due("one sign in row " + row, x.told(8), row + 1);
            check.due("lines with it", x.told(7), row + 1);
            x.eraseScreen(0);
            check.due("no sign any more", x.told(8), 1);
        }
    }

    private static void historyCounts() {
        check.sentence("LINES, promises 16 and 21", "The rows that count are those of the history, and");
        PouredScreen x = Check.sized(4, 2);
        x.moveTo(1, 0);
        x.feed(10);
        x.feed(10);
        x.moveTo(0, 0);
        check.due("two blank rows of the history", x.told(8), 3);
        check.due("they are lines", x.told(7), 3);
        check.due("line(1, 2)", x.line(1, 2), 1);
        check.due("line(2, 2)", x.line(2, 2), 0);
    }

    private static void rowsOfALine() {
        check.sentence("LINES, promise 16", "A line consists of a row that counts and those behind it, as long as the row before "
            + "has a wrap");
        PouredScreen x = Check.typed(4, 4, "abcd\nefghi\nj");
        check.due("marks", Check.marks(x), "|-w--");
        check.due("a full row without a wrap", x.line(0, 1), 1);
        check.due("a row with a wrap", x.line(1, 1), 2);
        check.due("the row behind it", x.line(2, 1), 1);
        check.due("no more", x.line(3, 1), NONE);
    }

    /** A wrap into a row that is blank now, and counts only for the cursor in it. */
    private static PouredScreen intoBlank() {
        PouredScreen x = Check.typed(4, 3, "abc e");
        x.moveTo(1, 2);
        x.eraseLine(2);
        return x;
    }

    private static void lastRowThatCounts() {
        check.sentence("LINES, promises 16 to 18", "(the last row that counts ends a line)");
        PouredScreen x = intoBlank();
        check.due("marks", Check.marks(x), "|w--");
        check.due("two rows", x.line(0, 1), 2);
        check.due("all cells of the first one", x.line(0, 0), 4);
        check.due("the mark in the second one", x.cursor(0, 3), 6);
        x.moveTo(0, 3);
        check.due("the wrap is still there", Check.marks(x), "|w--");
        check.due("one row", x.line(0, 1), 1);
        check.due("one line", x.told(7), 1);
        check.due("its cells up to the last one that is not blank", x.line(0, 0), 3);
        check.due("no more signs", x.sign(0, 3), NONE);
        check.due("the mark behind them", x.cursor(0, 3), 3);
        check.due("poured into 4 columns", x.ifWidth(4), 1);
        x.moveTo(1, 0);
        x.keep();
        x.moveTo(0, 3);
        check.due("two rows for a kept cursor", x.line(0, 1), 2);
        check.due("all cells then", x.line(0, 0), 4);
        x.moveTo(2, 0);
        x.keep();
        check.due("a line behind it", x.told(7), 2);
    }

    private static void numbersOfLines() {
        check.sentence("LINES, promises 16 and 18", "Lines are numbered from 0, those of the history first.");
        PouredScreen x = Check.typed(4, 2, "a\nb\nc\nd");
        check.due("the lines", Check.lines(x), "a/b/c/d");
        check.due("the cursor's line", x.cursor(0, 2), 3);
        x.moveTo(0, 0);
        check.due("the line of row 0", x.cursor(0, 2), 2);
        x = Check.typed(4, 2, "abcdefghi");
        x.moveTo(0, 0);
        check.due("a line that begins in the history", x.cursor(0, 2), 0);
        check.due("the only one", x.told(7), 1);
    }

    private static void cellsOfRowsThatGoOn() {
        check.sentence("LINES, promises 16 and 17", "of a row that is not the last one of the line, all cells, but not the last "
            + "one if the row has a gap;");
        PouredScreen x = Check.typed(4, 3, "abcD");
        check.due("a gap", Check.marks(x), "|g--");
        check.due("it is no sign", Check.lines(x), "abcD");
        check.due("four signs", x.line(0, 0), 4);
        x = Check.typed(4, 3, "abc D");
        check.due("a blank without a gap", Check.marks(x), "|w--");
        check.due("it is one", Check.lines(x), "abc_D");
        x = Check.typed(4, 3, "a   b");
        check.due("blanks at the end of a row that goes on", Check.lines(x), "a___b");
        x = Check.typed(4, 3, "a  Db");
        check.due("blanks ahead of a gap", Check.lines(x), "a__Db");
        x.moveTo(0, 0);
        x.eraseLine(1);
        check.due("a row without signs, but with a gap", Check.lines(x), "___Db");
    }

    private static void cellsOfTheLastRow() {
        check.sentence("LINES, promises 16 and 17", "of the last row, the cells up to the last one that is not blank.");
        check.due("blanks at the end", Check.typed(6, 2, "ab   ").line(0, 0), 2);
        check.due("blanks at the beginning", Check.typed(6, 2, "   ab").line(0, 0), 5);
        check.due("blanks alone", Check.typed(6, 2, "      ").line(0, 0), 0);
        check.due("a full row", Check.typed(6, 2, "abcdef").line(0, 0), 6);
        check.due("a blank between", Check.lines(Check.typed(6, 2, "a b  ")), "a_b");
        PouredScreen x = Check.typed(4, 2, "abcd  e");
        x.feed(8);
        x.eraseLine(0);
        check.due("the second row blank at its end", Check.lines(x), "abcd");
        x = Check.typed(4, 3, "abcD");
        x.moveTo(1, 0);
        x.eraseLine(2);
        x.moveTo(0, 0);
        check.due("the last row with a gap", Check.lines(x), "abc");
    }

    private static void signsOfALine() {
        check.sentence("LINES, promise 17", "The signs of a line are those in its cells, each wide sign once, and each blank cell "
            + "as a blank, numbered from 0.");
        PouredScreen x = Check.typed(5, 3, "A bCd E");
        check.due("the screen", Check.screen(x), "AA_b/CCd/EE");
        String due = "A bCd E";
        for (int k = 0; k < due.length(); k++) {
            check.due("sign(0, " + k + ")", x.sign(0, k), due.charAt(k));
        }
        check.due("sign(0, 7)", x.sign(0, 7), NONE);
        check.due("line(0, 0)", x.line(0, 0), 7);
    }

    private static void fullestLine() {
        check.sentence("LINES, promises 16 to 19", "The cells of a line are those of its rows, one row behind the other:");
        PouredScreen x = Check.fullestLine();
        check.due("the history", x.told(5), 24);
        check.due("one line", x.told(7), 1);
        check.due("its rows", x.line(0, 1), 32);
        check.due("its rows in the history", x.line(0, 2), 24);
        check.due("its signs", x.line(0, 0), 640);
        check.due("sign(0, 638)", x.sign(0, 638), 32);
        check.due("sign(0, 639)", x.sign(0, 639), '!');
        check.due("sign(0, 640)", x.sign(0, 640), NONE);
        check.due("sign(0, 620)", x.sign(0, 620), 'z');
        check.due("sign(0, 619)", x.sign(0, 619), 'y');
        check.due("the mark of the cursor", Check.cursor(x, 0), "7,19:0,640p");
        check.due("ifWidth(4)", x.ifWidth(4), 160);
        check.due("ifWidth(9)", x.ifWidth(9), 72);
        check.due("ifWidth(19)", x.ifWidth(19), 34);
        check.due("ifWidth(20)", x.ifWidth(20), 32);
        check.due("widthFor(32)", x.widthFor(32), 20);
        check.due("widthFor(31)", x.widthFor(31), NONE);
        check.due("widthFor(40)", x.widthFor(40), 16);
        check.due("resize(4, 2)", x.resize(4, 2), 160);
        check.due("the history then", x.told(5), 24);
        check.due("the signs then", x.line(0, 0), 104);
        check.due("the cursor then", Check.cursor(x, 0), "1,3:0,104p");
    }

    private static void marks() {
        check.sentence("LINES, promise 18", "The mark of a cursor is the number of signs of its line that begin before it "
            + "(in rows before its row, or in its row at a smaller column; a pending cursor counts as in column W)");
        PouredScreen x = Check.typed(4, 3, "aBcdEf");
        check.due("the screen", Check.screen(x), "aBBc/dEEf/");
        check.due("pending", Check.cursor(x, 0), "1,3:0,6p");
        int[] due = {0, 1, 2, 2, 3, 4, 5, 5};
        for (int cell = 0; cell < 8; cell++) {
            x.moveTo(cell / 4, cell % 4);
            check.due("the mark in cell " + cell, x.cursor(0, 3), due[cell]);
        }
        x = Check.typed(4, 6, "x\nabcdefghi\ny");
        check.due("lines of one row, three rows, and one", Check.marks(x), "|-ww---");
        String[] places = {"0,1:0,1", "1,1:1,1", "2,1:1,5", "3,1:1,9", "4,1:2,1", "5,1:3,1"};
        for (int row = 0; row < 6; row++) {
            x.moveTo(row, 1);
            check.due("line and mark in row " + row, Check.cursor(x, 0), places[row]);
        }
        x = Check.typed(4, 3, "abcDe");
        x.moveTo(0, 3);
        check.due("the mark in a gap", x.cursor(0, 3), 3);
        x.moveTo(1, 0);
        check.due("the mark behind a gap", x.cursor(0, 3), 3);
    }

    private static void marksBehindTheCells() {
        check.sentence("LINES, promise 18", "if it is in the last row of the line, and its column (W if it is pending) is greater "
            + "than the number of cells of the line in this row, plus the difference.");
        PouredScreen x = Check.typed(6, 2, "aB");
        int[] due = {0, 1, 2, 2, 3, 4};
        for (int column = 0; column < 6; column++) {
            x.moveTo(0, column);
            check.due("the mark at column " + column, x.cursor(0, 3), due[column]);
        }
        x.feed(32);
        check.due("the mark of a pending cursor behind blanks", Check.cursor(x, 0), "0,5:0,5p");
        for (int column = 0; column < 6; column++) {
            x.moveTo(1, column);
            check.due("the mark in a blank row at column " + column, Check.cursor(x, 0), "1," + column + ":1," + column);
        }
        x.feed(32);
        check.due("the mark of a pending cursor in a blank row", Check.cursor(x, 0), "1,5:1,6p");
        x = intoBlank();
        for (int column = 0; column < 4; column++) {
            x.moveTo(1, column);
            check.due("the mark in a blank last row at column " + column, x.cursor(0, 3), 4 + column);
        }
    }

    // ---- POURING

    private static void eachLineInANewRow() {
        check.sentence("POURING, promise 13", "the lines are poured into rows of the new width, one line behind the other, "
            + "each beginning with a new row:");
        PouredScreen x = Check.typed(4, 4, "abcd\nefgh\ni");
        check.due("resize(20, 4)", x.resize(20, 4), 3);
        check.due("full rows without wraps stay apart", Check.screen(x), "abcd/efgh/i/");
        check.due("resize(4, 4)", x.resize(4, 4), 3);
        check.due("lines that fill their rows", Check.screen(x), "abcd/efgh/i/");
        check.due("no wraps", Check.marks(x), "|----");
    }

    private static void roomForASign() {
        check.sentence("POURING, promises 13 and 19", "if there is no room for a sign, a new row begins, and the row before it "
            + "gets a wrap, and a gap if one of its cells is left.");
        String[] texts = {"abcd", "abcde", "abC", "abCD", "abcD", "abcDEF", "ABcd", "aBCd"};
        String[] screens = {"abcd///", "abcd/e//", "abCC///", "abCC/DD//", "abc/DD//", "abc/DDEE/FF/", "AABB/cd//", "aBB/CCd//"};
        String[] marks = {"|----", "|w---", "|----", "|w---", "|g---", "|gw--", "|w---", "|g---"};
        for (int k = 0; k < texts.length; k++) {
            PouredScreen x = Check.typed(20, 4, texts[k]);
            int rows = x.ifWidth(4);
            check.due("resize(4, 4) of " + texts[k], x.resize(4, 4), rows);
            check.due("its rows", Check.screen(x), screens[k]);
            check.due("their marks", Check.marks(x), marks[k]);
        }
    }

    private static void lineWithoutSigns() {
        check.sentence("POURING, promises 13 and 19", "A line without signs becomes a blank row.");
        PouredScreen x = Check.typed(10, 8, "a\n\n          \nb");
        check.due("ifWidth(4)", x.ifWidth(4), 4);
        check.due("resize(4, 5)", x.resize(4, 5), 4);
        check.due("the screen", Check.screen(x), "a///b/");
        check.due("no marks", Check.marks(x), "|-----");
        check.due("a blank screen", new PouredScreen().resize(4, 2), 1);
    }

    private static void atLeastAsManyRows() {
        check.sentence("POURING, promise 13", "If there are at least as many rows as the new H, the last H of them are the screen, "
            + "and the latest 24 of those before are the history;");
        PouredScreen x = Check.typed(6, 8, "a\nb\nc\nd");
        check.due("resize(6, 4)", x.resize(6, 4), 4);
        check.due("as many as H", Check.screen(x), "a/b/c/d");
        check.due("no history", x.told(5), 0);
        check.due("resize(6, 3)", x.resize(6, 3), 4);
        check.due("one more than H", Check.screen(x), "b/c/d");
        check.due("it is the history", Check.lines(x), "a/b/c/d");
        check.due("one row of it", x.told(5), 1);
    }

    private static void fewerRows() {
        check.sentence("POURING, promise 13", "otherwise they are the first rows of the screen, the others are blank, and the "
            + "history is empty.");
        PouredScreen x = Check.typed(6, 3, "a\nb\nc\nd");
        check.due("a history before", x.told(5), 1);
        check.due("resize(6, 5)", x.resize(6, 5), 4);
        check.due("one fewer than H", Check.screen(x), "a/b/c/d/");
        check.due("no history", x.told(5), 0);
        check.due("the last row has no marks", Check.marks(x), "|-----");
        check.due("resize(6, 8)", x.resize(6, 8), 4);
        check.due("four blank rows", Check.screen(x), "a/b/c/d////");
    }

    /** Lines of 20 signs, of 5 rows each in 4 columns, and one sign behind them. */
    private static PouredScreen longLines(int rows, int lines, String behind) {
        PouredScreen x = Check.sized(20, rows);
        for (int k = 0; k < lines; k++) {
            Check.type(x, (char) ('a' + k) + "123456789012345678-\n");
        }
        Check.type(x, behind);
        return x;
    }

    private static void latestRowsOfTheHistory() {
        check.sentence("POURING, promise 13", "and the latest 24 of those before are the history;");
        PouredScreen x = longLines(6, 5, "x");
        check.due("resize(4, 3) into 26 rows", x.resize(4, 3), 26);
        check.due("23 rows of history", x.told(5), 23);
        x = longLines(6, 5, "x");
        check.due("resize(4, 2) into 26 rows", x.resize(4, 2), 26);
        check.due("24 rows of history", x.told(5), 24);
        check.due("its oldest row is the first one", x.sign(0, 0), 'a');
        check.due("the signs of its line", x.line(0, 0), 20);
        x = longLines(7, 5, "x\ny");
        check.due("resize(4, 2) into 27 rows", x.resize(4, 2), 27);
        check.due("24 rows of history, too", x.told(5), 24);
        check.due("the first row is dropped", x.sign(0, 0), '4');
        check.due("the signs that are left of its line", x.line(0, 0), 16);
        check.due("the rows that count", x.told(8), 26);
        x = longLines(7, 6, "");
        x.moveTo(0, 0);
        check.due("resize(4, 2) into 30 rows", x.resize(4, 2), 30);
        check.due("the first line has its last row left", Check.lines(x).substring(0, 9), "678-/b123");
        check.due("that row has no wrap", x.row(-24, 0), 0);
        check.due("the one behind it has", x.row(-23, 0), 1);
    }

    /** Four signs in 10 columns and the cursor at one of them, poured. */
    private static PouredScreen followed(String text, int column, int columns) {
        PouredScreen x = Check.typed(10, 3, text);
        x.moveTo(0, column);
        x.resize(columns, 3);
        return x;
    }

    private static void markOfASign() {
        check.sentence("POURING, promise 13",
            "if the line has more signs than the mark, to the first cell of the sign with this number;");
        String[] due = {"0,0", "0,1", "0,2", "0,3", "1,0", "1,1"};
        for (int column = 0; column < 6; column++) {
            check.due("the cursor at column " + column, Check.place(followed("abcdef", column, 4), 0), due[column]);
        }
        String[] wide = {"0,0", "0,1", "1,0", "1,0", "1,2", "1,2", "1,3", "2,0", "2,2"};
        for (int column = 0; column < 9; column++) {
            check.due("the cursor at column " + column + " of wide signs", Check.place(followed("aBCdeF", column, 4), 0), wide[column]);
        }
    }

    private static void markBehindTheSigns() {
        check.sentence("POURING, promise 13", "as the mark is greater than the number of signs, plus 1, but at most to column W - 1.");
        String[] due5 = {"0,3", "0,4", "0,4", "0,4"};
        String[] due8 = {"0,3", "0,4", "0,5", "0,6", "0,7", "0,7", "0,7"};
        for (int column = 3; column <= 6; column++) {
            check.due("abcd in 5 columns, from " + column, Check.place(followed("abcd", column, 5), 0), due5[column - 3]);
        }
        for (int column = 3; column <= 9; column++) {
            check.due("abcd in 8 columns, from " + column, Check.place(followed("abcd", column, 8), 0), due8[column - 3]);
        }
        check.due("behind a second row", Check.place(followed("abcdef", 7, 4), 0), "1,3");
        check.due("farther behind a second row", Check.place(followed("abcdef", 9, 4), 0), "1,3");
        check.due("behind a wide sign", Check.place(followed("abC", 4, 6), 0), "0,4");
        check.due("farther behind a wide sign", Check.place(followed("abC", 5, 6), 0), "0,5");
    }

    private static void cursorInALineWithoutSigns() {
        check.sentence("POURING, promise 13", "otherwise to the row of the last sign of the line (the only row, if it has none), "
            + "and there to as many columns behind the last cell of the last sign (behind column -1 without one)");
        for (int column = 0; column < 10; column++) {
            PouredScreen x = Check.typed(10, 3, "abcdef");
            x.moveTo(1, column);
            x.resize(4, 4);
            check.due("the cursor at column " + column, Check.place(x, 0), "2," + Math.min(3, column));
        }
        PouredScreen x = Check.sized(4, 3);
        x.moveTo(0, 3);
        x.feed(32);
        check.due("a pending cursor in a blank line", Check.cursor(x, 0), "0,3:0,4p");
        x.resize(6, 3);
        check.due("poured into 6 columns", Check.place(x, 0), "0,4");
    }

    private static void pendingBehindPouring() {
        check.sentence("POURING, promise 13", "is pending if its mark is the number of signs of the line, this is not 0, and the "
            + "last sign takes the last cell of its row");
        check.due("the mark of the last sign", Check.place(followed("abcd", 3, 4), 0), "0,3");
        check.due("the mark behind it", Check.place(followed("abcd", 4, 4), 0), "0,3p");
        check.due("a mark more", Check.place(followed("abcd", 5, 4), 0), "0,3");
        check.due("a cell is left", Check.place(followed("abcd", 4, 5), 0), "0,4");
        check.due("in the second row", Check.place(followed("abcdefgh", 8, 4), 0), "1,3p");
        check.due("a cell is left in the second row", Check.place(followed("abcdefg", 7, 4), 0), "1,3");
        check.due("a wide sign at the end", Check.place(followed("abC", 4, 4), 0), "0,3p");
        check.due("its right half has the mark behind it", Check.place(followed("abC", 3, 4), 0), "0,3p");
        check.due("its left half has not", Check.place(followed("abC", 2, 4), 0), "0,2");
        check.due("a line without signs", Check.place(followed("", 0, 4), 0), "0,0");
        check.due("at the end of a line without signs", Check.place(followed("", 3, 4), 0), "0,3");
        check.due("behind that", Check.place(followed("", 4, 4), 0), "0,3");
    }

    private static void pendingWhetherBeforeOrNot() {
        check.sentence("POURING, promise 13", "(whether it was pending before or not).");
        PouredScreen x = Check.typed(4, 3, "abcd");
        check.due("pending before", Check.place(x, 0), "0,3p");
        x.resize(5, 3);
        check.due("not pending in 5 columns", Check.place(x, 0), "0,4");
        x.resize(4, 3);
        check.due("pending in 4 columns again", Check.place(x, 0), "0,3p");
        x.resize(4, 3);
        check.due("pending in as many", Check.place(x, 0), "0,3p");
        x.feed('e');
        check.due("it goes on", Check.marks(x), "|w--");
        x = Check.typed(4, 3, "a   ");
        check.due("pending behind blanks", Check.cursor(x, 0), "0,3:0,4p");
        x.resize(4, 3);
        check.due("its mark is behind the signs", Check.cursor(x, 0), "0,3:0,3");
    }

    private static void keptOnesAreNotPending() {
        check.sentence("POURING, promises 12 and 13", "The cursor, but no kept one, is pending if");
        PouredScreen x = Check.typed(10, 3, "abcd");
        x.keep();
        x.resize(4, 3);
        check.due("the cursor", Check.cursor(x, 0), "0,3:0,4p");
        check.due("the kept one at the same place", Check.cursor(x, 1), "0,3:0,3");
        x.back();
        check.due("the cursor behind back()", Check.cursor(x, 0), "0,3:0,3");
        x.feed('e');
        check.due("the sign comes there", Check.screen(x), "abce//");
    }

    /** Lines abcdefgh, x and y in 10 columns; in 4 columns and 3 rows, abcd is the history. */
    private static PouredScreen above(int column) {
        PouredScreen x = Check.typed(10, 4, "abcdefgh\nx\ny");
        x.moveTo(0, column);
        return x;
    }

    private static void offTheScreen() {
        check.sentence("POURING, promise 13", "A cursor that would be in a row that is not on the screen is in row 0 and column 0, "
            + "and not pending.");
        String[] due = {"0,0", "0,0", "0,0", "0,0", "0,0", "0,1", "0,2", "0,3", "0,3p", "0,3"};
        for (int column = 0; column < 10; column++) {
            PouredScreen x = above(column);
            x.resize(4, 3);
            check.due("the cursor from column " + column, Check.place(x, 0), due[column]);
        }
        PouredScreen x = above(8);
        x.resize(4, 2);
        check.due("it would be pending in the history", Check.place(x, 0), "0,0");
        x = longLines(8, 7, "x");
        for (int row = 0; row < 8; row++) {
            x.moveTo(row, 19);
            x.resize(4, 2);
            check.due("the cursor from row " + row, Check.place(x, 0), row == 7 ? "1,3" : row == 6 ? "0,3" : "0,0");
            x.undo();
        }
    }

    private static void keptOnesOffTheScreen() {
        check.sentence("POURING, promises 11 and 13", "The cursor, and each kept one, goes by its mark:");
        PouredScreen x = above(3);
        x.keep();
        x.moveTo(0, 5);
        x.keep();
        x.moveTo(2, 1);
        x.keep();
        x.moveTo(1, 0);
        x.resize(4, 3);
        check.due("the first kept one would be in the history", Check.place(x, 3), "0,0");
        check.due("the second one", Check.place(x, 2), "0,1");
        check.due("the latest one", Check.place(x, 1), "2,1");
        check.due("the cursor", Check.place(x, 0), "1,0");
        x = longLines(8, 7, "x");
        x.moveTo(0, 7);
        x.keep();
        x.moveTo(7, 1);
        x.resize(4, 2);
        check.due("a kept one in a row that is dropped", Check.place(x, 1), "0,0");
    }

    // ---- CHANGES

    private static void changesThatChangeNothing() {
        check.sentence("CHANGES, promises 2 to 10, 13 and 22", "record the state before it (all but the remembered states) if they "
            + "return no error code, also if everything is as before.");
        for (int which = 0; which <= 13; which++) {
            PouredScreen x = new PouredScreen();
            String before = Check.all(x);
            check.due("change " + which + " is not refused", idle(x, which) < 0 ? 1 : 0, 0);
            check.due("all behind change " + which, Check.all(x), before);
            check.due("it is recorded all the same", x.told(10), 1);
            check.due("undo() of it", x.undo(), 0);
            check.due("all behind that", Check.all(x), before);
        }
    }

    /** A change that leaves a new object as it is. */
    private static int idle(PouredScreen x, int which) {
        switch (which) {
            case 0: return x.feed(8);
            case 1: return x.feed(13);
            case 2: return x.moveTo(0, 0);
            case 3: return x.setRegion(0, 3);
            case 4: return x.eraseLine(0);
            case 5: return x.eraseLine(1);
            case 6: return x.eraseLine(2);
            case 7: return x.eraseScreen(0);
            case 8: return x.eraseScreen(2);
            case 9: return x.insertRows(8);
            case 10: return x.deleteRows(1);
            case 11: return x.insertCells(20);
            case 12: return x.deleteCells(1);
            default: return x.resize(10, 4) - 1;
        }
    }

    private static void refusedAreNotRecorded() {
        check.sentence("CHANGES, promises 2 to 13", "if they return no error code");
        PouredScreen x = new PouredScreen();
        x.setRegion(2, 3);
        x.keep();
        x.keep();
        x.keep();
        check.due("states", x.told(10), 4);
        x.feed(11);
        x.moveTo(-1, 0);
        x.setRegion(3, 2);
        x.eraseLine(-1);
        x.eraseScreen(3);
        x.insertRows(1);
        x.insertRows(9);
        x.deleteRows(1);
        x.deleteRows(0);
        x.insertCells(0);
        x.deleteCells(21);
        x.keep();
        x.resize(10, 1);
        check.due("refused calls", x.told(10), 4);
        x.cell(0, 0);
        x.row(0, 0);
        x.line(0, 0);
        x.sign(0, 0);
        x.cursor(0, 0);
        x.ifWidth(4);
        x.widthFor(1);
        x.digest();
        check.due("questions", x.told(10), 4);
        check.due("undo() is not recorded", x.undo(), 3);
        x = new PouredScreen();
        x.back();
        x.undo();
        check.due("back() and undo() that are refused", x.told(10), 0);
    }

    private static void eightStates() {
        check.sentence("CHANGES, promises 21 and 22", "At most 8 recorded states are remembered: when one more is recorded, the "
            + "oldest one is dropped;");
        for (int changes = 7; changes <= 10; changes++) {
            PouredScreen x = new PouredScreen();
            for (int k = 0; k < changes; k++) {
                x.feed('a' + k);
            }
            int due = Math.min(8, changes);
            check.due("states behind " + changes + " changes", x.told(10), due);
            for (int k = due - 1; k >= 0; k--) {
                check.due("undo()", x.undo(), k);
            }
            check.due("one more undo()", x.undo(), STATE);
            check.due("the signs of the oldest state that is left", x.line(0, 0), changes - due);
        }
    }

    private static void latestState() {
        check.sentence("CHANGES, promise 22", "undo() restores the latest one and removes it.");
        PouredScreen x = new PouredScreen();
        String[] before = new String[40];
        int states = 0;
        int made = 0;
        // Changes and undo() in turns, so that the oldest state is dropped at each place of a ring.
        for (int turn = 0; turn < 9; turn++) {
            for (int k = 0; k < 7; k++) {
                before[states] = Check.all(x);
                x.feed('a' + made % 26);
                made++;
                states++;
            }
            for (int k = 0; k < 4; k++) {
                states--;
                x.undo();
                check.due("undo() " + k + " of turn " + turn, Check.all(x), before[states]);
            }
        }
        check.due("states", x.told(10), 4);
    }

    private static void allOfAState() {
        check.sentence("CHANGES, promise 22", "record the state before it (all but the remembered states)");
        PouredScreen x = Check.typed(5, 3, "abcdEfghijKlm\nno");
        x.keep();
        x.moveTo(0, 4);
        String[] before = new String[8];
        for (int k = 0; k < 8; k++) {
            before[k] = Check.all(x);
            severalChanges(x, k);
        }
        for (int k = 7; k >= 0; k--) {
            check.due("undo() with states left", x.undo(), k);
            check.due("all as ahead of change " + k, Check.all(x), before[k]);
        }
        x = Check.typed(4, 2, "abcdefgh");
        x.feed('i');
        check.due("cells that are not blank", x.told(9), 5);
        x.undo();
        check.due("cells of the screen behind undo() of scrolling", x.told(9), 8);
        check.due("rows that count then", x.told(8), 2);
        check.due("the history then", x.told(5), 0);
        x.feed(10);
        check.due("a line feed then, its blank row", Check.screen(x), "efgh/");
    }

    /** Changes of which each touches another part of the state. */
    private static void severalChanges(PouredScreen x, int which) {
        switch (which) {
            case 0: x.setRegion(1, 2); break;
            case 1: x.keep(); break;
            case 2: x.resize(9, 7); break;
            case 3: x.setRegion(0, 1); break;
            case 4: x.back(); break;
            case 5: x.eraseScreen(2); break;
            case 6: x.resize(4, 2); break;
            default: x.back(); break;
        }
    }
}
