import java.util.function.Supplier;

/** The edges that the document names in "What it is", RETURN VALUES, SCREEN and FEEDING: a test for each sentence. */
public final class EdgeScreenTest {
    private static final int BAD = PouredScreen.BAD;
    private static final int STATE = PouredScreen.STATE;
    private static final int FULL = PouredScreen.FULL;
    private static final int NONE = PouredScreen.NONE;
    private static final int MIN = Integer.MIN_VALUE;
    private static final int MAX = Integer.MAX_VALUE;

    private static final Check check = new Check("EdgeScreenTest");

    public static void main(String[] args) {
        lastCall();
        badAheadOfState();
        refusedChanges();
        refusedForTheState();
        refusedQuestions();
        noneBehindErrors();
        sizes();
        codesOfSigns();
        wideSigns();
        otherCells();
        marksAtFirst();
        fullHistory();
        behindTheHistory();
        halvesOverwritten();
        halvesErased();
        halvesTakenAway();
        halvesMovedOff();
        marksLostByWriting();
        marksLostByErasing();
        marksLostByMovingCells();
        marksLostByHalves();
        marksLostByTheRowBehind();
        marksLostInTheHistory();
        noRowBehindAnyMore();
        erasedRowsAreTheSame();
        cursorAtFirst();
        regionAtFirst();
        lineFeedScrolls();
        firstRowOfTheRegion();
        rowsOfTheRegion();
        lineFeedMoves();
        lineFeedKeepsTheColumn();
        goingOn();
        writingFromPending();
        wideInTheLastColumn();
        gapOnlyWithAWrap();
        cellsOfASign();
        columnBehindASign();
        writtenBlanks();
        backspace();
        tab();
        lineFeedCode();
        carriageReturn();
        pendingEnds();
        check.end();
    }

    // ---- what it is

    private static void lastCall() {
        check.sentence("WHAT IT IS", "An object is used for at most 512 calls after it has been made");
        PouredScreen x = new PouredScreen();
        for (int k = 0; k < 509; k++) {
            x.feed('a' + k % 26);
        }
        // 50 rows are full, and 9 signs stand in the next one: 500 'a'+6, .. 508 'a'+14.
        check.due("call 510, feed()", x.feed('A'), 24);
        check.due("call 511, cell()", x.cell(2, 8), 'a' + 508 % 26);
        check.due("call 512, undo()", x.undo(), 7);
    }

    // ---- RETURN VALUES

    private static void badAheadOfState() {
        check.sentence("RETURN VALUES, promises 7 and 8",
            "If several of them apply to a call, the first one in this order is returned.");
        PouredScreen x = new PouredScreen();
        x.setRegion(1, 2);
        for (int n : new int[] {MIN, -1, 0, 9, MAX}) {
            check.due("insertRows(" + n + ") ahead of the region", x.insertRows(n), BAD);
            check.due("deleteRows(" + n + ") ahead of the region", x.deleteRows(n), BAD);
        }
        for (int n : new int[] {1, 8}) {
            check.due("insertRows(" + n + ") ahead of the region", x.insertRows(n), STATE);
            check.due("deleteRows(" + n + ") ahead of the region", x.deleteRows(n), STATE);
        }
    }

    /** A history, a gap, a region, three kept cursors, eight states, and the cursor pending behind the region. */
    private static PouredScreen full() {
        PouredScreen x = Check.typed(5, 4, "abcdEfg\nhi\njk\nL m\no");
        x.moveTo(1, 2);
        x.keep();
        x.moveTo(0, 4);
        x.keep();
        x.moveTo(3, 1);
        x.keep();
        x.setRegion(1, 2);
        x.moveTo(3, 3);
        x.feed('X');
        return x;
    }

    private static void refusedChanges() {
        check.sentence("RETURN VALUES, promises 2 to 10 and 13", "A call that returns an error code changes nothing.");
        check.due("the cursor", Check.place(full(), 0), "3,4p");
        check.due("the screen", Check.screen(full()), "hi/jk/LL_m/o__XX");
        check.due("the marks", Check.marks(full()), "g-|----");
        Supplier<PouredScreen> full = EdgeScreenTest::full;
        check.refused("feed(7)", full, x -> x.feed(7), BAD);
        check.refused("feed(31)", full, x -> x.feed(31), BAD);
        check.refused("feed(127)", full, x -> x.feed(127), BAD);
        check.refused("moveTo(4, 0)", full, x -> x.moveTo(4, 0), BAD);
        check.refused("moveTo(0, 5)", full, x -> x.moveTo(0, 5), BAD);
        check.refused("moveTo(0, -1)", full, x -> x.moveTo(0, -1), BAD);
        check.refused("setRegion(2, 2)", full, x -> x.setRegion(2, 2), BAD);
        check.refused("setRegion(0, 4)", full, x -> x.setRegion(0, 4), BAD);
        check.refused("setRegion(-1, 3)", full, x -> x.setRegion(-1, 3), BAD);
        check.refused("eraseLine(3)", full, x -> x.eraseLine(3), BAD);
        check.refused("eraseLine(-1)", full, x -> x.eraseLine(-1), BAD);
        check.refused("eraseScreen(3)", full, x -> x.eraseScreen(3), BAD);
        check.refused("eraseScreen(-1)", full, x -> x.eraseScreen(-1), BAD);
        check.refused("insertRows(0)", full, x -> x.insertRows(0), BAD);
        check.refused("deleteRows(9)", full, x -> x.deleteRows(9), BAD);
        check.refused("insertCells(0)", full, x -> x.insertCells(0), BAD);
        check.refused("insertCells(21)", full, x -> x.insertCells(21), BAD);
        check.refused("deleteCells(0)", full, x -> x.deleteCells(0), BAD);
        check.refused("deleteCells(21)", full, x -> x.deleteCells(21), BAD);
        check.refused("resize(3, 4)", full, x -> x.resize(3, 4), BAD);
        check.refused("resize(5, 9)", full, x -> x.resize(5, 9), BAD);
    }

    private static void refusedForTheState() {
        check.sentence("RETURN VALUES, promises 7, 8, 11, 12 and 22", "A call that returns an error code changes nothing.");
        Supplier<PouredScreen> full = EdgeScreenTest::full;
        check.refused("insertRows(1) behind the region", full, x -> x.insertRows(1), STATE);
        check.refused("deleteRows(1) behind the region", full, x -> x.deleteRows(1), STATE);
        check.refused("keep() of a fourth cursor", full, PouredScreen::keep, FULL);
        Supplier<PouredScreen> pending = () -> Check.typed(5, 2, "abcdefghijklmno");
        check.refused("back() without a kept cursor", pending, PouredScreen::back, STATE);
        // 15 signs are left, with the cursor pending behind them, and no remembered state.
        Supplier<PouredScreen> undone = () -> {
            PouredScreen x = Check.typed(5, 2, "abcdefghijklmnopqrstuvw");
            for (int k = 0; k < 8; k++) {
                x.undo();
            }
            return x;
        };
        check.due("the cursor where nothing is remembered", Check.place(undone.get(), 0), "1,4p");
        check.refused("undo() without a state", undone, PouredScreen::undo, STATE);
    }

    private static void refusedQuestions() {
        check.sentence("RETURN VALUES, promises 14 to 21", "A call that returns an error code changes nothing.");
        Supplier<PouredScreen> full = EdgeScreenTest::full;
        check.refused("cell(4, 0)", full, x -> x.cell(4, 0), BAD);
        check.refused("row(4, 0)", full, x -> x.row(4, 0), BAD);
        check.refused("row(-25, 0)", full, x -> x.row(-25, 0), BAD);
        check.refused("line(-1, 0)", full, x -> x.line(-1, 0), BAD);
        check.refused("sign(0, -1)", full, x -> x.sign(0, -1), BAD);
        check.refused("cursor(4, 0)", full, x -> x.cursor(4, 0), BAD);
        check.refused("ifWidth(3)", full, x -> x.ifWidth(3), BAD);
        check.refused("widthFor(0)", full, x -> x.widthFor(0), BAD);
        check.refused("told(11)", full, x -> x.told(11), BAD);
    }

    private static void noneBehindErrors() {
        check.sentence("RETURN VALUES, promises 15 to 18 and 20", "is returned only if no error code applies.");
        PouredScreen x = new PouredScreen();
        check.due("row(-1, 3)", x.row(-1, 3), NONE);
        check.due("row(-1, 4)", x.row(-1, 4), BAD);
        check.due("row(-24, -1)", x.row(-24, -1), BAD);
        check.due("line(1, 2)", x.line(1, 2), NONE);
        check.due("line(1, 3)", x.line(1, 3), BAD);
        check.due("line(MAX, -1)", x.line(MAX, -1), BAD);
        check.due("sign(1, 0)", x.sign(1, 0), NONE);
        check.due("sign(1, -1)", x.sign(1, -1), BAD);
        check.due("sign(-1, MAX)", x.sign(-1, MAX), BAD);
        check.due("cursor(3, 3)", x.cursor(3, 3), NONE);
        check.due("cursor(3, 4)", x.cursor(3, 4), BAD);
        check.due("cursor(1, -1)", x.cursor(1, -1), BAD);
        x.moveTo(3, 0);
        check.due("widthFor(1) of four lines", x.widthFor(1), NONE);
        check.due("widthFor(0) of four lines", x.widthFor(0), BAD);
    }

    // ---- SCREEN

    private static void sizes() {
        check.sentence("SCREEN, promises 1, 13 and 14",
            "The screen has W columns (4 to 20; 10 at first) and H rows (2 to 8; 4 at first), numbered from 0.");
        edgesOf(new PouredScreen(), 10, 4);
        edgesOf(Check.sized(4, 2), 4, 2);
        edgesOf(Check.sized(4, 8), 4, 8);
        edgesOf(Check.sized(20, 2), 20, 2);
        edgesOf(Check.sized(20, 8), 20, 8);
        PouredScreen x = new PouredScreen();
        check.due("3 columns", x.resize(3, 4), BAD);
        check.due("21 columns", x.resize(21, 4), BAD);
        check.due("1 row", x.resize(10, 1), BAD);
        check.due("9 rows", x.resize(10, 9), BAD);
    }

    private static void edgesOf(PouredScreen x, int columns, int rows) {
        String size = " of " + columns + " columns and " + rows + " rows";
        check.due("W" + size, x.told(0), columns);
        check.due("H" + size, x.told(1), rows);
        check.due("the first cell" + size, x.cell(0, 0), 32);
        check.due("the last cell" + size, x.cell(rows - 1, columns - 1), 32);
        check.due("column -1" + size, x.cell(0, -1), BAD);
        check.due("column W" + size, x.cell(0, columns), BAD);
        check.due("row -1" + size, x.cell(-1, 0), BAD);
        check.due("row H" + size, x.cell(rows, 0), BAD);
    }

    private static void codesOfSigns() {
        check.sentence("SCREEN, promises 2 and 14", "Signs are told by their codes, 33 to 126.");
        PouredScreen x = new PouredScreen();
        check.due("feed(32)", x.feed(32), 0);
        check.due("signs with 32", x.row(0, 3), 0);
        check.due("feed(33)", x.feed(33), 0);
        check.due("signs with 33", x.row(0, 3), 1);
        check.due("the cell of 33", x.cell(0, 1), 33);
        check.due("feed(126)", x.feed(126), 0);
        check.due("the cell of 126", x.cell(0, 2), 126);
        check.due("feed(127)", x.feed(127), BAD);
        check.due("signs then", x.row(0, 3), 2);
    }

    private static void wideSigns() {
        check.sentence("SCREEN, promise 2", "The signs A to Z (65 to 90) are wide: each takes two cells side by side, "
            + "its left half and its right half; all others take one.");
        int[] codes = {33, 64, 65, 66, 89, 90, 91, 96, 97, 122, 126};
        int[] cells = {1, 1, 2, 2, 2, 2, 1, 1, 1, 1, 1};
        for (int k = 0; k < codes.length; k++) {
            PouredScreen x = new PouredScreen();
            x.feed(codes[k]);
            check.due("the cells of " + codes[k], x.told(9), cells[k]);
            check.due("the column behind " + codes[k], x.cursor(0, 1), cells[k]);
            check.due("the cell behind the first one of " + codes[k], x.cell(0, 1), cells[k] == 2 ? codes[k] : 32);
            check.due("the signs of " + codes[k], x.row(0, 3), 1);
        }
    }

    private static void otherCells() {
        check.sentence("SCREEN, promise 14", "Every other cell is blank.");
        PouredScreen x = Check.typed(4, 2, "a");
        int blank = 0;
        for (int cell = 1; cell < 8; cell++) {
            blank += x.cell(cell / 4, cell % 4) == 32 ? 1 : 0;
        }
        check.due("blank cells", blank, 7);
        check.due("cells that are not blank", x.told(9), 1);
    }

    private static void marksAtFirst() {
        check.sentence("SCREEN, promise 15", "because a wide sign had no room in it (at first there are none).");
        check.due("marks of a new object", Check.marks(new PouredScreen()), "|----");
        check.due("marks of 8 rows", Check.marks(Check.sized(20, 8)), "|--------");
    }

    private static void fullHistory() {
        check.sentence("SCREEN, promises 2 and 15",
            "There is a history of at most 24 rows, which are ahead of row 0 of the screen; "
            + "when one more comes, the oldest one is dropped.");
        // The oldest line has two rows.
        PouredScreen x = Check.typed(4, 2, "abcde\n");
        check.due("one row", x.told(5), 1);
        for (int k = 2; k <= 23; k++) {
            x.feed(10);
        }
        check.due("23 rows", x.told(5), 23);
        check.due("row -24 of 23", x.row(-24, 2), NONE);
        check.due("feed(10) to 24 rows", x.feed(10), 24);
        check.due("row -24 of 24", x.row(-24, 2), 4);
        check.due("its wrap", x.row(-24, 0), 1);
        check.due("the oldest line", x.line(0, 0), 5);
        check.due("feed(10) with 24 rows", x.feed(10), 24);
        check.due("the oldest row is dropped", x.row(-24, 2), 1);
        check.due("the oldest line is what is left of it", x.line(0, 0), 1);
        check.due("its sign", x.sign(0, 0), 'e');
        check.due("row -25", x.row(-25, 2), BAD);
        check.due("feed(10) once more", x.feed(10), 24);
        check.due("the next one is dropped", x.row(-24, 2), 0);
        check.due("the rows that count", x.told(8), 26);
    }

    private static void behindTheHistory() {
        check.sentence("SCREEN, promises 15 and 16", "The row behind the last one of the history is row 0 of the screen.");
        PouredScreen x = Check.typed(4, 2, "abcdefghi");
        check.due("marks", Check.marks(x), "w|w-");
        check.due("the rows of the line", x.line(0, 1), 3);
        check.due("its rows in the history", x.line(0, 2), 1);
        check.due("its signs", Check.lines(x), "abcdefghi");
    }

    private static PouredScreen abc(int column) {
        PouredScreen x = Check.typed(8, 2, "ABC");
        x.moveTo(0, column);
        return x;
    }

    private static final String HALVES = "Whenever a half of a wide sign is overwritten, erased, taken away or moved off "
        + "the screen, and its other half is not, the other half becomes blank.";

    private static void halvesOverwritten() {
        check.sentence("SCREEN, promise 2", HALVES);
        String[] due = {"x_BBCC/", "_xBBCC/", "AAx_CC/", "AA_xCC/", "AABBx/", "AABB_x/", "AABBCCx/"};
        String[] wide = {"DDBBCC/", "_DD_CC/", "AADDCC/", "AA_DD/", "AABBDD/", "AABB_DD/", "AABBCCDD/"};
        String[] blank = {"__BBCC/", "__BBCC/", "AA__CC/", "AA__CC/", "AABB/", "AABB/", "AABBCC/"};
        for (int column = 0; column <= 6; column++) {
            PouredScreen x = abc(column);
            x.feed('x');
            check.due("x at column " + column, Check.screen(x), due[column]);
            x = abc(column);
            x.feed('D');
            check.due("D at column " + column, Check.screen(x), wide[column]);
            x = abc(column);
            x.feed(32);
            check.due("a blank at column " + column, Check.screen(x), blank[column]);
        }
        PouredScreen x = Check.typed(4, 2, "abC");
        x.moveTo(0, 3);
        x.feed('D');
        check.due("the blank ahead of a wide sign that goes on", Check.screen(x), "ab/DD");
    }

    private static void halvesErased() {
        check.sentence("SCREEN, promises 5 and 6", HALVES);
        PouredScreen x = abc(3);
        check.due("eraseLine(0) from a right half on", x.eraseLine(0), 4);
        check.due("what is left", Check.screen(x), "AA/");
        x = abc(2);
        check.due("eraseLine(0) from a left half on", x.eraseLine(0), 4);
        check.due("what is left ahead of it", Check.screen(x), "AA/");
        x = abc(2);
        check.due("eraseLine(1) to a left half", x.eraseLine(1), 4);
        check.due("what is left behind it", Check.screen(x), "____CC/");
        x = abc(3);
        check.due("eraseLine(1) to a right half", x.eraseLine(1), 4);
        check.due("what is left behind that", Check.screen(x), "____CC/");
        x = abc(5);
        check.due("eraseScreen(0) from a right half on", x.eraseScreen(0), 2);
        check.due("two signs are left", Check.screen(x), "AABB/");
        x = abc(0);
        check.due("eraseScreen(1) to a left half", x.eraseScreen(1), 2);
        check.due("two other signs are left", Check.screen(x), "__BBCC/");
    }

    private static void halvesTakenAway() {
        check.sentence("SCREEN, promise 10", HALVES);
        String[] one = {"_BBCC/", "_BBCC/", "AA_CC/", "AA_CC/", "AABB/", "AABB/"};
        String[] two = {"BBCC/", "__CC/", "AACC/", "AA/", "AABB/", "AABB/"};
        for (int column = 0; column < 6; column++) {
            PouredScreen x = abc(column);
            check.due("deleteCells(1) at column " + column, x.deleteCells(1), 2);
            check.due("what is left", Check.screen(x), one[column]);
            x = abc(column);
            check.due("deleteCells(2) at column " + column, x.deleteCells(2), column == 1 || column == 3 ? 4 : 2);
            check.due("what is left then", Check.screen(x), two[column]);
        }
    }

    private static void halvesMovedOff() {
        check.sentence("SCREEN, promise 9", HALVES);
        PouredScreen x = Check.typed(4, 2, "abC");
        x.moveTo(0, 0);
        check.due("insertCells(1), a right half moves off", x.insertCells(1), 2);
        check.due("its left half is blank", Check.screen(x), "_ab/");
        check.due("so is its cell", x.cell(0, 3), 32);
        x = Check.typed(4, 2, "abC");
        x.moveTo(0, 0);
        check.due("insertCells(2), both halves move off", x.insertCells(2), 2);
        check.due("the others are there", Check.screen(x), "__ab/");
        x = Check.typed(20, 2, "abcdefghijklmnopqrS");
        x.moveTo(0, 5);
        check.due("insertCells(1) in 20 columns", x.insertCells(1), 2);
        check.due("the last cell is blank", Check.screen(x), "abcde_fghijklmnopqr/");
    }

    private static final String MARKS = "A row loses its wrap and its gap whenever something is written into its last cell "
        + "(also a blank), this cell is erased, is moved, or becomes blank by the rule before; and (a row of the history, too) "
        + "when the row behind it becomes another one, or there is none any more; a row that is erased is the same one.";

    /** Three rows: one with a wrap and a gap, one with a wrap, and the last one; the cursor at a cell. */
    private static PouredScreen marked(int row, int column) {
        PouredScreen x = Check.typed(4, 3, "abcDefGhi");
        x.moveTo(row, column);
        return x;
    }

    private static void marksLostByWriting() {
        check.sentence("SCREEN, promise 2", MARKS);
        check.due("the screen", Check.screen(marked(0, 0)), "abc/DDef/GGhi");
        check.due("its marks", Check.marks(marked(0, 0)), "|gw-");
        String[] into0 = {"|gw-", "|gw-", "|gw-", "|-w-"};
        String[] into1 = {"|gw-", "|gw-", "|gw-", "|g--"};
        for (int column = 0; column < 4; column++) {
            for (int code : new int[] {'x', 32}) {
                PouredScreen x = marked(0, column);
                x.feed(code);
                check.due(code + " into column " + column + " of a gap's row", Check.marks(x), into0[column]);
                x = marked(1, column);
                x.feed(code);
                check.due(code + " into column " + column + " of a wrap's row", Check.marks(x), into1[column]);
            }
        }
        PouredScreen x = marked(0, 1);
        x.feed('X');
        check.due("a wide sign ahead of the last cell", Check.marks(x), "|gw-");
        x = marked(0, 2);
        x.feed('X');
        check.due("a wide sign's right half in the last cell", Check.marks(x), "|-w-");
        x = marked(1, 3);
        x.feed('X');
        check.due("a blank in the last cell, and a new wrap and gap", Check.marks(x), "|gg-");
    }

    private static void marksLostByErasing() {
        check.sentence("SCREEN, promises 5 and 6", MARKS);
        for (int kind = 0; kind <= 2; kind++) {
            for (int column = 0; column < 4; column++) {
                boolean lost = kind != 1 || column == 3;
                PouredScreen x = marked(0, column);
                x.eraseLine(kind);
                check.due("eraseLine(" + kind + ") at column " + column, Check.marks(x), lost ? "|-w-" : "|gw-");
                x = marked(1, column);
                x.eraseScreen(kind);
                check.due("eraseScreen(" + kind + ") at column " + column, Check.marks(x),
                    (kind == 0 ? "|g" : "|-") + (lost ? "-" : "w") + "-");
            }
        }
    }

    private static void marksLostByMovingCells() {
        check.sentence("SCREEN, promises 9 and 10", MARKS);
        for (int column = 0; column < 4; column++) {
            PouredScreen x = marked(0, column);
            x.insertCells(1);
            check.due("insertCells(1) at column " + column, Check.marks(x), "|-w-");
            x = marked(1, column);
            x.deleteCells(1);
            check.due("deleteCells(1) at column " + column, Check.marks(x), "|g--");
        }
    }

    private static void marksLostByHalves() {
        check.sentence("SCREEN, promises 2, 5 and 6", MARKS);
        PouredScreen x = Check.typed(4, 3, "abCd");
        check.due("marks", Check.marks(x), "|w--");
        x.moveTo(0, 2);
        x.feed('x');
        check.due("a left half is overwritten, the last cell becomes blank", Check.marks(x), "|---");
        x.undo();
        x.moveTo(0, 1);
        x.feed('X');
        check.due("the same by a wide sign", Check.marks(x), "|---");
        x.undo();
        x.undo();
        check.due("eraseLine(1) to a left half", x.eraseLine(1), 4);
        check.due("the last cell becomes blank", Check.marks(x), "|---");
        x.undo();
        check.due("eraseScreen(1) to a left half", x.eraseScreen(1), 4);
        check.due("the last cell becomes blank, too", Check.marks(x), "|---");
        x.undo();
        x.moveTo(0, 1);
        x.eraseLine(1);
        check.due("not by a sign ahead of it", Check.marks(x), "|w--");
    }

    /** Four rows with three wraps. */
    private static PouredScreen wrapped(int row) {
        PouredScreen x = Check.typed(4, 4, "abcdefghijklm");
        x.moveTo(row, 0);
        return x;
    }

    private static void marksLostByTheRowBehind() {
        check.sentence("SCREEN, promises 2, 7 and 8", MARKS);
        String[] inserted = {"|-ww-", "|--w-", "|w---", "|ww--"};
        String[] deleted = {"|ww--", "|-w--", "|w---", "|ww--"};
        for (int row = 0; row < 4; row++) {
            PouredScreen x = wrapped(row);
            x.insertRows(1);
            check.due("insertRows(1) at row " + row, Check.marks(x), inserted[row]);
            x = wrapped(row);
            x.deleteRows(1);
            check.due("deleteRows(1) at row " + row, Check.marks(x), deleted[row]);
        }
        PouredScreen x = wrapped(0);
        x.setRegion(1, 2);
        x.moveTo(2, 0);
        x.feed(10);
        check.due("a region scrolls", Check.screen(x), "abcd/ijkl//m");
        check.due("the row ahead of it, and its last one", Check.marks(x), "|----");
        x = wrapped(0);
        x.setRegion(1, 3);
        x.moveTo(3, 0);
        x.feed(10);
        check.due("rows that have the same one behind them keep theirs", Check.marks(x), "|-w--");
        x = wrapped(0);
        x.setRegion(0, 2);
        x.moveTo(2, 0);
        x.feed(10);
        check.due("a region from row 0 on scrolls", Check.screen(x), "efgh/ijkl//m");
        check.due("its last row had the one behind the region behind it", Check.marks(x), "w|w---");
        x = Check.typed(4, 4, "abcdefghijklmnopqrstuvwxyz");
        check.due("wraps of the history", Check.marks(x), "www|www-");
        for (int k = 0; k < 21; k++) {
            x.moveTo(3, 0);
            x.feed(10);
        }
        x.moveTo(0, 0);
        Check.type(x, "abcdefghijklm");
        x.setRegion(0, 2);
        x.moveTo(2, 0);
        check.due("it scrolls into a full history", x.feed(10), 24);
        check.due("its last row loses its wrap as well", Check.marks(x).substring(23), "w|w---");
        x = marked(1, 0);
        x.insertRows(1);
        check.due("a gap is lost, too", Check.marks(x), "|---");
    }

    private static void marksLostInTheHistory() {
        check.sentence("SCREEN, promises 2, 7 and 8", "(a row of the history, too)");
        PouredScreen x = Check.typed(4, 2, "abcDefGhi");
        check.due("marks", Check.marks(x), "g|w-");
        x.moveTo(0, 0);
        x.insertRows(1);
        check.due("insertRows(1) at row 0", Check.marks(x), "-|--");
        x.undo();
        x.deleteRows(1);
        check.due("deleteRows(1) at row 0", Check.marks(x), "-|--");
        x.undo();
        x.moveTo(1, 0);
        x.insertRows(1);
        check.due("insertRows(1) at row 1", Check.marks(x), "g|--");
        x.undo();
        x.feed(10);
        check.due("row 0 goes to the history with the row behind it", Check.marks(x), "gw|--");
    }

    private static void noRowBehindAnyMore() {
        check.sentence("SCREEN, promise 7", "or there is none any more");
        PouredScreen x = Check.typed(4, 2, "abcDe");
        check.due("marks", Check.marks(x), "|g-");
        x.moveTo(0, 0);
        check.due("insertRows(1)", x.insertRows(1), 1);
        check.due("the row is the last one", Check.screen(x), "/abc");
        check.due("its marks are gone", Check.marks(x), "|--");
    }

    private static void erasedRowsAreTheSame() {
        check.sentence("SCREEN, promises 5 and 6", "a row that is erased is the same one.");
        PouredScreen x = marked(1, 0);
        check.due("eraseLine(2)", x.eraseLine(2), 4);
        check.due("the row ahead keeps its marks", Check.marks(x), "|g--");
        x = Check.typed(4, 2, "abcDefGhi");
        check.due("eraseScreen(2)", x.eraseScreen(2), 8);
        check.due("the row of the history keeps its marks", Check.marks(x), "g|--");
        x = marked(2, 0);
        x.eraseScreen(0);
        check.due("eraseScreen(0) in the last row", Check.marks(x), "|gw-");
    }

    private static void cursorAtFirst() {
        check.sentence("SCREEN, promises 1 and 18",
            "The cursor has a row and a column (0 and 0 at first), and can be pending (not at first).");
        check.due("the cursor", Check.cursor(new PouredScreen(), 0), "0,0:0,0");
        check.due("pending", new PouredScreen().told(4), 0);
    }

    private static void regionAtFirst() {
        check.sentence("SCREEN, promises 1, 4 and 13",
            "The region has a first row and a last row, which is greater (at first, and behind each resize, 0 and H - 1).");
        PouredScreen x = new PouredScreen();
        check.due("the first row", x.told(2), 0);
        check.due("the last row", x.told(3), 3);
        int[][] sizes = {{10, 4}, {10, 8}, {10, 2}, {4, 2}, {20, 8}};
        for (int[] size : sizes) {
            x.setRegion(x.told(1) - 2, x.told(1) - 1);
            x.resize(size[0], size[1]);
            check.due("the first row behind resize to " + size[1] + " rows", x.told(2), 0);
            check.due("the last row behind it", x.told(3), size[1] - 1);
        }
        check.due("setRegion() of one row", x.setRegion(3, 3), BAD);
        check.due("setRegion() of two rows", x.setRegion(3, 4), 2);
    }

    // ---- FEEDING

    /** Five rows a to e, a region, and the cursor in a row. */
    private static PouredScreen inRegion(int first, int last, int row) {
        PouredScreen x = Check.typed(6, 5, "a\nb\nc\nd\ne");
        x.setRegion(first, last);
        x.moveTo(row, 2);
        return x;
    }

    private static void lineFeedScrolls() {
        check.sentence("FEEDING, promise 2",
            "A line feed is this: if the cursor is in the last row of the region, the rows of the region scroll:");
        String[] due = {"a/b/c/d/e", "a/b/c/d/e", "a/b/c/d/e", "a/c/d//e", "a/b/c/d/e"};
        for (int row = 0; row < 5; row++) {
            PouredScreen x = inRegion(1, 3, row);
            x.feed(10);
            check.due("a line feed in row " + row + " with the region 1 to 3", Check.screen(x), due[row]);
        }
        PouredScreen x = inRegion(3, 4, 4);
        x.feed(10);
        check.due("the last row of the region is H - 1", Check.screen(x), "a/b/c/e/");
    }

    private static void firstRowOfTheRegion() {
        check.sentence("FEEDING, promise 2",
            "its first row is taken away (if this is row 0 of the screen, it goes to the end of the history)");
        PouredScreen x = inRegion(1, 2, 2);
        check.due("a region from row 1 on", x.feed(10), 0);
        check.due("its first row is gone", Check.lines(x), "a/c//d/e");
        x = inRegion(0, 1, 1);
        check.due("a region from row 0 on", x.feed(10), 1);
        check.due("its first row is in the history", Check.lines(x), "a/b//c/d/e");
        check.due("the second row, blank behind it", x.feed(10), 2);
        check.due("a blank row goes to the history, too", x.feed(10), 3);
        check.due("the history from its end on", Check.lines(x), "a/b///" + "/c/d/e");
        check.due("the screen", Check.screen(x), "//c/d/e");
    }

    private static void rowsOfTheRegion() {
        check.sentence("FEEDING, promise 2", "the others move up by one, and the last row of the region becomes a blank one.");
        PouredScreen x = inRegion(0, 4, 4);
        x.feed(10);
        check.due("all rows", Check.screen(x), "b/c/d/e/");
        x = inRegion(0, 3, 3);
        x.feed(10);
        check.due("all but the last one", Check.screen(x), "b/c/d//e");
        x = inRegion(1, 4, 4);
        x.feed(10);
        check.due("all but the first one", Check.screen(x), "a/c/d/e/");
        x = inRegion(2, 3, 3);
        x.feed(10);
        check.due("two rows", Check.screen(x), "a/b/d//e");
        x = Check.typed(4, 2, "abcdefghi");
        x.moveTo(1, 3);
        x.feed(10);
        check.due("the blank row has no marks", Check.marks(x), "ww|--");
        x = Check.typed(4, 3, "x\nabcDe");
        check.due("a gap in row 1", Check.marks(x), "|-g-");
        x.setRegion(1, 2);
        x.moveTo(2, 0);
        x.feed(10);
        check.due("the blank row has no gap of the one that was taken away", Check.marks(x), "|---");
        x = Check.typed(4, 2, "abcDeF");
        check.due("a gap in the history", Check.marks(x), "g|g-");
        for (int k = 0; k < 26; k++) {
            x.feed(10);
        }
        check.due("blank rows have none of those that were dropped", Check.marks(x), "------------------------|--");
    }

    private static void lineFeedMoves() {
        check.sentence("FEEDING, promise 2", "Otherwise, if the cursor is not in row H - 1, its row increases by 1.");
        int[] due = {1, 2, 2, 4, 4};
        for (int row = 0; row < 5; row++) {
            PouredScreen x = inRegion(1, 2, row);
            x.feed(10);
            check.due("a line feed in row " + row + " with the region 1 to 2", x.cursor(0, 0), due[row]);
        }
        PouredScreen x = inRegion(0, 4, 4);
        x.feed(10);
        check.due("a line feed in row H - 1 of the region", x.cursor(0, 0), 4);
    }

    private static void lineFeedKeepsTheColumn() {
        check.sentence("FEEDING, promise 2", "The column stays.");
        for (int row = 0; row < 5; row++) {
            PouredScreen x = inRegion(1, 2, row);
            x.moveTo(row, 5);
            x.feed(10);
            check.due("the last column, in row " + row, x.cursor(0, 1), 5);
            x.moveTo(row, 0);
            x.feed(10);
            check.due("column 0, in row " + row, x.cursor(0, 1), 0);
        }
    }

    /** 4 columns and 4 rows, the region 1 to 2, and x y written at the end of a row. */
    private static PouredScreen overTheEnd(int row, String text) {
        PouredScreen x = Check.sized(4, 4);
        x.setRegion(1, 2);
        x.moveTo(row, 3);
        Check.type(x, text);
        return x;
    }

    private static void goingOn() {
        check.sentence("FEEDING, promise 2", "if the line feed scrolled, or changed its row, the row above the cursor gets "
            + "a wrap (otherwise none does, and the cursor is at the beginning of its row).");
        String[] screens = {"___x/y//", "/___x/y/", "/___x/y/", "///y__x"};
        String[] marks = {"|w---", "|-w--", "|-w--", "|----"};
        String[] places = {"1,1", "2,1", "2,1", "3,1"};
        for (int row = 0; row < 4; row++) {
            PouredScreen x = overTheEnd(row, "xy");
            check.due("the screen from row " + row, Check.screen(x), screens[row]);
            check.due("the marks from row " + row, Check.marks(x), marks[row]);
            check.due("the cursor from row " + row, Check.place(x, 0), places[row]);
        }
        PouredScreen x = Check.typed(4, 2, "abcdefghi");
        check.due("the row above the cursor, behind scrolling", Check.marks(x), "w|w-");
    }

    private static void writingFromPending() {
        check.sentence("FEEDING, promise 2", "If the cursor is pending, it goes on, and is not pending any more.");
        PouredScreen x = Check.typed(4, 3, "abcd");
        check.due("pending", Check.place(x, 0), "0,3p");
        x.feed('e');
        check.due("not any more", Check.place(x, 0), "1,1");
        check.due("the sign in the next row", Check.screen(x), "abcd/e/");
        x = Check.typed(4, 3, "abcd");
        x.moveTo(0, 3);
        x.feed('e');
        check.due("in the last column, but not pending", Check.screen(x), "abce//");
        check.due("pending by that", Check.place(x, 0), "0,3p");
        x.feed('F');
        check.due("a wide sign from pending", Check.screen(x), "abce/FF/");
        check.due("it leaves no gap", Check.marks(x), "|w--");
    }

    private static void wideInTheLastColumn() {
        check.sentence("FEEDING, promise 2", "If it is a wide sign, and the column is W - 1, a blank is written into this "
            + "cell, and the cursor goes on; if a row gets a wrap by that, it gets a gap, too.");
        PouredScreen x = Check.typed(5, 3, "abcD");
        check.due("column W - 2", Check.screen(x), "abcDD//");
        check.due("it does not go on", Check.place(x, 0), "0,4p");
        x = Check.typed(5, 3, "abcdE");
        check.due("column W - 1", Check.screen(x), "abcd/EE/");
        check.due("a wrap and a gap", Check.marks(x), "|g--");
        check.due("the cursor behind it", Check.place(x, 0), "1,2");
        x = Check.typed(5, 3, "abcde");
        x.moveTo(0, 4);
        x.feed('F');
        check.due("column W - 1 with a sign in it", Check.screen(x), "abcd/FF/");
        x = Check.typed(5, 3, "abcde");
        x.moveTo(0, 4);
        x.feed('f');
        check.due("a narrow sign in column W - 1", Check.screen(x), "abcdf//");
    }

    private static void gapOnlyWithAWrap() {
        check.sentence("FEEDING, promise 2", "if a row gets a wrap by that, it gets a gap, too.");
        String[] marks = {"|g---", "|-g--", "|-g--", "|----"};
        String[] screens = {"/AA//", "//AA/", "//AA/", "///AA"};
        for (int row = 0; row < 4; row++) {
            PouredScreen x = overTheEnd(row, "A");
            check.due("the marks from row " + row, Check.marks(x), marks[row]);
            check.due("the screen from row " + row, Check.screen(x), screens[row]);
        }
    }

    private static void cellsOfASign() {
        check.sentence("FEEDING, promise 2", "The sign comes into the cell of the cursor, and the one behind it if it is wide.");
        for (int column = 0; column < 6; column++) {
            PouredScreen x = Check.typed(6, 2, "abcdef");
            x.moveTo(0, column);
            x.feed('x');
            check.due("x at column " + column, Check.screen(x), "abcdef".substring(0, column) + "x" + "abcdef".substring(column + 1) + "/");
            if (column < 5) {
                x = Check.typed(6, 2, "abcdef");
                x.moveTo(0, column);
                x.feed('X');
                check.due("X at column " + column, Check.screen(x), "abcdef".substring(0, column) + "XX" + "abcdef".substring(column + 2) + "/");
            }
        }
    }

    private static void columnBehindASign() {
        check.sentence("FEEDING, promise 2",
            "The column increases by 1 or 2; if it is W then, it becomes W - 1, and the cursor is pending.");
        String[] narrow = {"0,1", "0,2", "0,3", "0,4", "0,4p"};
        String[] wide = {"0,2", "0,3", "0,4", "0,4p", "1,2"};
        for (int column = 0; column < 5; column++) {
            PouredScreen x = Check.sized(5, 2);
            x.moveTo(0, column);
            x.feed('x');
            check.due("behind x at column " + column, Check.place(x, 0), narrow[column]);
            x.moveTo(0, column);
            x.feed('X');
            check.due("behind X at column " + column, Check.place(x, 0), wide[column]);
        }
    }

    private static void writtenBlanks() {
        check.sentence("FEEDING, promise 2", "32 for a blank, which takes one cell;");
        PouredScreen x = Check.typed(5, 2, "abcd ");
        check.due("a blank in the last column", Check.place(x, 0), "0,4p");
        x.feed(32);
        check.due("a blank from pending goes on", Check.place(x, 0), "1,1");
        check.due("with a wrap, and no gap", Check.marks(x), "|w-");
        x.moveTo(0, 0);
        x.feed(32);
        check.due("a blank over a sign", Check.screen(x), "_bcd/");
        check.due("one cell", Check.place(x, 0), "0,1");
    }

    private static void backspace() {
        check.sentence("FEEDING, promise 2", "8: the column decreases by 1, if it is not 0;");
        PouredScreen x = new PouredScreen();
        x.moveTo(1, 9);
        for (int column = 8; column >= 0; column--) {
            x.feed(8);
            check.due("8", Check.place(x, 0), "1," + column);
        }
        x.feed(8);
        check.due("8 in column 0", Check.place(x, 0), "1,0");
        x = Check.typed(4, 2, "abcd");
        x.feed(8);
        check.due("8 from pending", Check.place(x, 0), "0,2");
        check.due("nothing is erased", Check.screen(x), "abcd/");
    }

    private static void tab() {
        check.sentence("FEEDING, promise 2", "9: the column becomes the next greater multiple of 4, but at most W - 1;");
        int[][] due = {{4, 0, 3}, {4, 3, 3}, {5, 0, 4}, {5, 3, 4}, {5, 4, 4}, {8, 3, 4}, {8, 4, 7}, {8, 7, 7}, {9, 4, 8},
            {9, 7, 8}, {9, 8, 8}, {10, 8, 9}, {10, 9, 9}, {20, 0, 4}, {20, 1, 4}, {20, 11, 12}, {20, 12, 16}, {20, 16, 19}, {20, 19, 19}};
        for (int[] columns : due) {
            PouredScreen x = Check.sized(columns[0], 2);
            x.moveTo(1, columns[1]);
            x.feed(9);
            check.due("9 from column " + columns[1] + " of " + columns[0], Check.place(x, 0), "1," + columns[2]);
        }
    }

    private static void lineFeedCode() {
        check.sentence("FEEDING, promise 2", "10: a line feed;");
        PouredScreen x = Check.typed(4, 2, "abcd");
        x.feed(10);
        check.due("10 from pending", Check.place(x, 0), "1,3");
        check.due("it gives no wrap", Check.marks(x), "|--");
        check.due("10 in the last row", x.feed(10), 1);
        check.due("no wrap, either", Check.marks(x), "-|--");
    }

    private static void carriageReturn() {
        check.sentence("FEEDING, promise 2", "13: the column becomes 0.");
        PouredScreen x = Check.typed(4, 2, "abcd");
        x.feed(13);
        check.due("13 from pending", Check.place(x, 0), "0,0");
        x.feed(13);
        check.due("13 in column 0", Check.place(x, 0), "0,0");
        x.moveTo(1, 2);
        x.feed(13);
        check.due("13 in row 1", Check.place(x, 0), "1,0");
    }

    /** Nine signs and a kept cursor at the end of the row, which is pending there. */
    private static PouredScreen pending() {
        PouredScreen x = Check.typed(9, 3, "abcdefghi");
        x.keep();
        return x;
    }

    private static void pendingEnds() {
        check.sentence("FEEDING, promises 2 to 12", "Behind each change but keep(), and but the writing of a sign or blank (4.), "
            + "the cursor is not pending.");
        check.due("behind keep()", Check.place(pending(), 0), "0,8p");
        String[] names = {"feed(8)", "feed(9)", "feed(10)", "feed(13)", "moveTo()", "setRegion()", "eraseLine(0)", "eraseLine(1)",
            "eraseLine(2)", "eraseScreen(0)", "eraseScreen(1)", "eraseScreen(2)", "insertRows(1)", "deleteRows(1)",
            "insertCells(1)", "deleteCells(1)", "back()", "feed('j')", "feed('J')", "feed(32)"};
        String[] places = {"0,7", "0,8", "1,8", "0,0", "0,8", "0,0", "0,8", "0,8", "0,8", "0,8", "0,8", "0,8", "0,8", "0,8",
            "0,8", "0,8", "0,8", "1,1", "1,2", "1,1"};
        for (int k = 0; k < names.length; k++) {
            PouredScreen x = pending();
            changePending(x, k);
            check.due("behind " + names[k], Check.place(x, 0), places[k]);
            x.undo();
            check.due("undo() of " + names[k], Check.place(x, 0), "0,8p");
        }
    }

    private static void changePending(PouredScreen x, int which) {
        switch (which) {
            case 0: x.feed(8); break;
            case 1: x.feed(9); break;
            case 2: x.feed(10); break;
            case 3: x.feed(13); break;
            case 4: x.moveTo(0, 8); break;
            case 5: x.setRegion(0, 2); break;
            case 6: x.eraseLine(0); break;
            case 7: x.eraseLine(1); break;
            case 8: x.eraseLine(2); break;
            case 9: x.eraseScreen(0); break;
            case 10: x.eraseScreen(1); break;
            case 11: x.eraseScreen(2); break;
            case 12: x.insertRows(1); break;
            case 13: x.deleteRows(1); break;
            case 14: x.insertCells(1); break;
            case 15: x.deleteCells(1); break;
            case 16: x.back(); break;
            case 17: x.feed('j'); break;
            case 18: x.feed('J'); break;
            default: x.feed(32); break;
        }
    }
}
