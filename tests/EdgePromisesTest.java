import java.math.BigInteger;

/** The edges that the document names under the headings of promises 1 to 23: a test for each sentence. */
public final class EdgePromisesTest {
    private static final int BAD = PouredScreen.BAD;
    private static final int STATE = PouredScreen.STATE;
    private static final int FULL = PouredScreen.FULL;
    private static final int NONE = PouredScreen.NONE;
    private static final int MIN = Integer.MIN_VALUE;
    private static final int MAX = Integer.MAX_VALUE;

    private static final Check check = new Check("EdgePromisesTest");

    public static void main(String[] args) {
        newObject();
        feedCodes();
        feedAnswers();
        moveToArguments();
        moveToAnswers();
        setRegionArguments();
        setRegionCursor();
        eraseLineKinds();
        eraseLineBounds();
        eraseLineAnswers();
        eraseScreenKinds();
        eraseScreenBounds();
        eraseScreenAnswers();
        insertRowsNumbers();
        insertRowsFewer();
        insertRowsAnswers();
        insertRowsOutsideTheRegion();
        deleteRowsNumbers();
        deleteRowsFewer();
        deleteRowsAnswers();
        deleteRowsOutsideTheRegion();
        insertCellsNumbers();
        insertCellsFewer();
        insertCellsOnARightHalf();
        insertCellsAnswers();
        deleteCellsNumbers();
        deleteCellsFewer();
        deleteCellsAnswers();
        movedCells();
        cursorStays();
        keepThree();
        keepIsNotPending();
        keptWhenRowsMove();
        backWithoutAny();
        backInOrder();
        resizeArguments();
        resizeToTheSameSize();
        resizeAnswers();
        cellArguments();
        cellAnswers();
        rowArguments();
        rowsOfTheHistory();
        rowNumbers();
        lineArguments();
        lineNumbers();
        signArguments();
        signsThereAreNot();
        cursorArguments();
        cursorsThereAreNot();
        ifWidthArguments();
        ifWidthChangesNothing();
        widthForArguments();
        widthForNone();
        widthForSmallest();
        toldArguments();
        toldNumbers();
        undoWithoutAny();
        digestWrapsAround();
        digestOfAll();
        check.end();
    }

    // ---- 1: a new object

    private static void newObject() {
        check.sentence("promise 1", "Creates a blank screen of 10 columns and 4 rows, without history and kept cursors.");
        PouredScreen x = new PouredScreen();
        int[] told = {10, 4, 0, 3, 0, 0, 0, 1, 1, 0, 0};
        for (int what = 0; what <= 10; what++) {
            check.due("told(" + what + ")", x.told(what), told[what]);
        }
        check.due("row(-1, 0)", x.row(-1, 0), NONE);
        check.due("cursor(1, 0)", x.cursor(1, 0), NONE);
        check.due("back()", x.back(), STATE);
        check.due("undo()", x.undo(), STATE);
    }

    // ---- 2: feed

    private static void feedCodes() {
        check.sentence("promise 2", "BAD if code is none of these.");
        for (int code = -300; code <= 700; code++) {
            boolean good = code == 8 || code == 9 || code == 10 || code == 13 || code >= 32 && code <= 126;
            PouredScreen x = new PouredScreen();
            check.due("feed(" + code + ")", x.feed(code), good ? 0 : BAD);
            check.due("states behind feed(" + code + ")", x.told(10), good ? 1 : 0);
        }
        for (int code : new int[] {MIN, MIN + 10, MIN + 65, 65536 + 65, MAX - 1, MAX}) {
            check.due("feed(" + code + ")", new PouredScreen().feed(code), BAD);
        }
    }

    private static void feedAnswers() {
        check.sentence("promise 2", "Returns the number of rows of the history then;");
        PouredScreen x = Check.sized(4, 2);
        check.due("feed(10) that moves", x.feed(10), 0);
        for (int k = 1; k <= 26; k++) {
            check.due("feed(10) number " + k, x.feed(10), Math.min(24, k));
        }
        check.due("feed(13) with 24 rows", x.feed(13), 24);
        x = Check.typed(4, 2, "abcdefgh");
        check.due("a sign that scrolls", x.feed('i'), 1);
        x.moveTo(1, 3);
        check.due("a wide sign that scrolls", x.feed('J'), 2);
        check.due("a sign that does not", x.feed('k'), 2);
    }

    // ---- 3: moveTo

    private static void moveToArguments() {
        check.sentence("promise 3", "BAD if an argument is out of range.");
        int[][] sizes = {{10, 4}, {4, 2}, {20, 8}};
        for (int[] size : sizes) {
            PouredScreen x = Check.sized(size[0], size[1]);
            check.due("moveTo(H - 1, W - 1)", x.moveTo(size[1] - 1, size[0] - 1), 0);
            check.due("moveTo(0, 0)", x.moveTo(0, 0), size[0] * size[1] - 1);
            int[][] wrong = {{-1, 0}, {size[1], 0}, {0, -1}, {0, size[0]}, {MIN, 0}, {MAX, 0}, {0, MIN}, {0, MAX}, {size[1], size[0]}};
            for (int[] place : wrong) {
                check.due("moveTo(" + place[0] + ", " + place[1] + ")", x.moveTo(place[0], place[1]), BAD);
            }
            check.due("the cursor stays", Check.place(x, 0), "0,0");
        }
    }

    private static void moveToAnswers() {
        check.sentence("promise 3", "Returns W * (its row before) + (its column before);");
        PouredScreen x = Check.typed(4, 3, "abcd");
        check.due("moveTo() from pending", x.moveTo(2, 0), 3);
        check.due("moveTo() from column 0", x.moveTo(2, 3), 8);
        check.due("moveTo() to the same place", x.moveTo(2, 3), 11);
        x = Check.typed(4, 2, "abcd\nefgh\nijkl");
        check.due("moveTo() with a history", x.moveTo(0, 0), 7);
    }

    // ---- 4: setRegion

    private static void setRegionArguments() {
        check.sentence("promise 4", "Returns the number of its rows; BAD if an argument is out of range.");
        for (int rows = 2; rows <= 8; rows++) {
            PouredScreen x = Check.sized(10, rows);
            for (int first = -2; first <= 9; first++) {
                for (int last = -2; last <= 9; last++) {
                    boolean good = first >= 0 && last > first && last <= rows - 1;
                    check.due("setRegion(" + first + ", " + last + ") of " + rows + " rows", x.setRegion(first, last),
                        good ? last - first + 1 : BAD);
                }
            }
            check.due("setRegion(MIN, MAX)", x.setRegion(MIN, MAX), BAD);
            check.due("setRegion(0, MAX)", x.setRegion(0, MAX), BAD);
            check.due("setRegion(MIN, 1)", x.setRegion(MIN, 1), BAD);
            check.due("setRegion(MAX, MIN)", x.setRegion(MAX, MIN), BAD);
            check.due("the last one that was not refused, its first row", x.told(2), rows - 2);
            check.due("its last row", x.told(3), rows - 1);
        }
    }

    private static void setRegionCursor() {
        check.sentence("promise 4", "Sets the region; the cursor goes to row 0 and column 0.");
        PouredScreen x = Check.typed(4, 4, "abcdefgh");
        check.due("setRegion(2, 3)", x.setRegion(2, 3), 2);
        check.due("row 0, though it is not in the region", Check.place(x, 0), "0,0");
        x.moveTo(3, 3);
        check.due("setRegion(2, 3) again", x.setRegion(2, 3), 2);
        check.due("row 0, though the region is as before", Check.place(x, 0), "0,0");
    }

    // ---- 5: eraseLine

    /** Three rows of eight cells with a wide sign in cells 1 and 2, and the cursor. */
    private static PouredScreen lettered(int row, int column) {
        PouredScreen x = Check.typed(8, 3, "aBcdefg\nhIjklmn\noPqrstu");
        x.moveTo(row, column);
        return x;
    }

    private static void eraseLineKinds() {
        check.sentence("promise 5", "BAD if kind is out of range.");
        for (int kind : new int[] {MIN, -2, -1, 3, 4, MAX}) {
            check.due("eraseLine(" + kind + ")", lettered(1, 3).eraseLine(kind), BAD);
        }
    }

    private static void eraseLineBounds() {
        check.sentence("promise 5", "`kind`: 0 for those from the cursor to the end, 1 for those from the beginning to the cursor "
            + "(with its own cell), 2 for all");
        String[] toEnd = {"", "h", "h", "hII", "hIIj", "hIIjk", "hIIjkl", "hIIjklm"};
        String[] toCursor = {"_IIjklmn", "___jklmn", "___jklmn", "____klmn", "_____lmn", "______mn", "_______n", ""};
        for (int column = 0; column < 8; column++) {
            PouredScreen x = lettered(1, column);
            x.eraseLine(0);
            check.due("eraseLine(0) at column " + column, Check.screen(x), "aBBcdefg/" + toEnd[column] + "/oPPqrstu");
            x = lettered(1, column);
            x.eraseLine(1);
            check.due("eraseLine(1) at column " + column, Check.screen(x), "aBBcdefg/" + toCursor[column] + "/oPPqrstu");
            x = lettered(1, column);
            x.eraseLine(2);
            check.due("eraseLine(2) at column " + column, Check.screen(x), "aBBcdefg//oPPqrstu");
        }
    }

    private static void eraseLineAnswers() {
        check.sentence("promise 5", "Returns how many cells of the screen were not blank and are blank then;");
        int[] toEnd = {8, 7, 7, 5, 4, 3, 2, 1};
        int[] toCursor = {1, 3, 3, 4, 5, 6, 7, 8};
        for (int column = 0; column < 8; column++) {
            check.due("eraseLine(0) at column " + column, lettered(1, column).eraseLine(0), toEnd[column]);
            check.due("eraseLine(1) at column " + column, lettered(1, column).eraseLine(1), toCursor[column]);
            check.due("eraseLine(2) at column " + column, lettered(1, column).eraseLine(2), 8);
        }
        PouredScreen x = Check.typed(8, 2, "a b  c");
        check.due("blank cells are not counted", x.eraseLine(2), 3);
        check.due("a blank row", x.eraseLine(2), 0);
    }

    // ---- 6: eraseScreen

    private static void eraseScreenKinds() {
        check.sentence("promise 6", "BAD if kind is out of range.");
        for (int kind : new int[] {MIN, -2, -1, 3, 4, MAX}) {
            check.due("eraseScreen(" + kind + ")", lettered(1, 3).eraseScreen(kind), BAD);
        }
    }

    private static void eraseScreenBounds() {
        check.sentence("promise 6", "`kind`: 0 for those of eraseLine(0) and all rows behind, 1 for those of eraseLine(1) and all "
            + "rows before, 2 for all");
        String[] from = {"a//", "aBBcdefg/h/", "aBBcdefg/hIIjklmn/o"};
        String[] to = {"___cdefg/hIIjklmn/oPPqrstu", "/___jklmn/oPPqrstu", "//___qrstu"};
        for (int row = 0; row < 3; row++) {
            PouredScreen x = lettered(row, 2);
            x.eraseScreen(0);
            check.due("eraseScreen(0) in row " + row, Check.screen(x), from[row]);
            x = lettered(row, 1);
            x.eraseScreen(1);
            check.due("eraseScreen(1) in row " + row, Check.screen(x), to[row]);
            x = lettered(row, 2);
            x.eraseScreen(2);
            check.due("eraseScreen(2) in row " + row, Check.screen(x), "//");
        }
        PouredScreen x = Check.typed(8, 2, "a\nb\nc");
        x.setRegion(0, 1);
        x.eraseScreen(2);
        check.due("the history is not erased", Check.lines(x), "a/");
        x = allFull();
        check.due("eraseScreen(2) with all full", x.eraseScreen(2), 160);
        check.due("the oldest row of a full history", x.sign(0, 0), 'a');
        check.due("the latest one", x.sign(23, 0), 'Z');
        check.due("blank rows of the screen", Check.screen(x), "///////");
        x = lettered(0, 0);
        x.setRegion(0, 1);
        x.eraseScreen(0);
        check.due("rows behind the region are", Check.screen(x), "//");
    }

    private static void eraseScreenAnswers() {
        check.sentence("promise 6", "Returns how many cells of the screen were not blank and are blank then;");
        int[] from = {23, 15, 7};
        int[] to = {3, 11, 19};
        for (int row = 0; row < 3; row++) {
            check.due("eraseScreen(0) in row " + row, lettered(row, 2).eraseScreen(0), from[row]);
            check.due("eraseScreen(1) in row " + row, lettered(row, 1).eraseScreen(1), to[row]);
            check.due("eraseScreen(2) in row " + row, lettered(row, 2).eraseScreen(2), 24);
        }
        check.due("the last cell", lettered(2, 7).eraseScreen(0), 1);
        check.due("all to the last cell", lettered(2, 7).eraseScreen(1), 24);
        check.due("all from the first cell on", lettered(0, 0).eraseScreen(0), 24);
        check.due("the first cell", lettered(0, 0).eraseScreen(1), 1);
        check.due("a blank screen", new PouredScreen().eraseScreen(2), 0);
    }

    // ---- 7: insertRows

    /** Eight rows a to h, and the cursor in one of them. */
    private static PouredScreen eight(int row) {
        PouredScreen x = Check.typed(4, 8, "a\nb\nc\nd\ne\nf\ng\nh");
        x.moveTo(row, 2);
        return x;
    }

    /** The same with the region 2 to 5. */
    private static PouredScreen inRegion(int row) {
        PouredScreen x = eight(0);
        x.setRegion(2, 5);
        x.moveTo(row, 2);
        return x;
    }

    private static void insertRowsNumbers() {
        check.sentence("promise 7", "BAD if n is out of range;");
        for (int n = 1; n <= 8; n++) {
            check.due("insertRows(" + n + ")", eight(0).insertRows(n), n);
        }
        for (int n : new int[] {MIN, -8, -1, 0, 9, 10, MAX}) {
            check.due("insertRows(" + n + ")", eight(0).insertRows(n), BAD);
        }
    }

    private static void insertRowsFewer() {
        check.sentence("promise 7", "(if there are fewer rows from that of the cursor to the end of the region, so many)");
        String[] due = {"a/b//c/d/e/g/h", "a/b///c/d/g/h", "a/b////c/g/h", "a/b/////g/h", "a/b/////g/h"};
        for (int n = 1; n <= 5; n++) {
            PouredScreen x = inRegion(2);
            check.due("insertRows(" + n + ") of four rows", x.insertRows(n), Math.min(4, n));
            check.due("the rows behind it", Check.screen(x), due[n - 1]);
        }
        PouredScreen x = inRegion(5);
        check.due("insertRows(1) of one row", x.insertRows(1), 1);
        check.due("that row alone", Check.screen(x), "a/b/c/d/e//g/h");
        x = inRegion(5);
        check.due("insertRows(8) of one row", x.insertRows(8), 1);
        check.due("that row alone, too", Check.screen(x), "a/b/c/d/e//g/h");
        x = eight(7);
        check.due("insertRows(2) in row H - 1", x.insertRows(2), 1);
        check.due("the last row", Check.screen(x), "a/b/c/d/e/f/g/");
        x = eight(6);
        check.due("insertRows(8) in row H - 2", x.insertRows(8), 2);
        check.due("the last two rows", Check.screen(x), "a/b/c/d/e/f//");
    }

    private static void insertRowsAnswers() {
        check.sentence("promise 7", "Returns how many rows that were not wholly blank were lost;");
        PouredScreen x = Check.typed(4, 4, "a\n\nb\n   c");
        x.moveTo(0, 0);
        check.due("one row with one sign in its last cell", x.insertRows(1), 1);
        check.due("one row", x.insertRows(1), 1);
        check.due("a blank one", x.insertRows(1), 0);
        check.due("the last one", x.insertRows(4), 1);
        check.due("none is left", x.insertRows(4), 0);
        x = Check.typed(4, 4, "a\n\nb\n   c");
        x.moveTo(0, 0);
        check.due("three of four rows", x.insertRows(8), 3);
        check.due("nothing is in the history", x.told(5), 0);
    }

    private static void insertRowsOutsideTheRegion() {
        check.sentence("promise 7", "STATE if the cursor is not in the region.");
        int[] due = {STATE, STATE, 1, 1, 1, 1, STATE, STATE};
        for (int row = 0; row < 8; row++) {
            check.due("insertRows(1) in row " + row + " with the region 2 to 5", inRegion(row).insertRows(1), due[row]);
        }
    }

    // ---- 8: deleteRows

    private static void deleteRowsNumbers() {
        check.sentence("promise 8", "BAD if n is out of range;");
        for (int n = 1; n <= 8; n++) {
            check.due("deleteRows(" + n + ")", eight(0).deleteRows(n), n);
        }
        for (int n : new int[] {MIN, -8, -1, 0, 9, 10, MAX}) {
            check.due("deleteRows(" + n + ")", eight(0).deleteRows(n), BAD);
        }
    }

    private static void deleteRowsFewer() {
        check.sentence("promise 8", "(if there are fewer rows from that of the cursor to the end of the region, so many)");
        String[] due = {"a/b/d/e/f//g/h", "a/b/e/f///g/h", "a/b/f////g/h", "a/b/////g/h", "a/b/////g/h"};
        for (int n = 1; n <= 5; n++) {
            PouredScreen x = inRegion(2);
            check.due("deleteRows(" + n + ") of four rows", x.deleteRows(n), Math.min(4, n));
            check.due("the rows behind it", Check.screen(x), due[n - 1]);
        }
        PouredScreen x = inRegion(5);
        check.due("deleteRows(1) of one row", x.deleteRows(1), 1);
        check.due("that row alone", Check.screen(x), "a/b/c/d/e//g/h");
        x = inRegion(5);
        check.due("deleteRows(8) of one row", x.deleteRows(8), 1);
        check.due("that row alone, too", Check.screen(x), "a/b/c/d/e//g/h");
        x = eight(7);
        check.due("deleteRows(2) in row H - 1", x.deleteRows(2), 1);
        check.due("the last row", Check.screen(x), "a/b/c/d/e/f/g/");
        x = eight(6);
        check.due("deleteRows(8) in row H - 2", x.deleteRows(8), 2);
        check.due("the last two rows", Check.screen(x), "a/b/c/d/e/f//");
    }

    private static void deleteRowsAnswers() {
        check.sentence("promise 8", "Returns how many rows that were not wholly blank were taken away;");
        PouredScreen x = Check.typed(4, 4, "a\n\nb\n   c");
        x.moveTo(0, 0);
        check.due("one row", x.deleteRows(1), 1);
        check.due("a blank one", x.deleteRows(1), 0);
        check.due("two rows", x.deleteRows(4), 2);
        check.due("none is left", x.deleteRows(4), 0);
        x = Check.typed(4, 4, "a\n\nb\n   c");
        x.moveTo(0, 0);
        check.due("three of four rows", x.deleteRows(8), 3);
        check.due("nothing is in the history", x.told(5), 0);
    }

    private static void deleteRowsOutsideTheRegion() {
        check.sentence("promise 8", "STATE if the cursor is not in the region.");
        int[] due = {STATE, STATE, 1, 1, 1, 1, STATE, STATE};
        for (int row = 0; row < 8; row++) {
            check.due("deleteRows(1) in row " + row + " with the region 2 to 5", inRegion(row).deleteRows(1), due[row]);
        }
    }

    // ---- 9: insertCells

    /** A row with these signs, and the cursor. */
    private static PouredScreen aRow(int columns, String text, int column) {
        PouredScreen x = Check.typed(columns, 2, text);
        x.moveTo(0, column);
        return x;
    }

    private static void insertCellsNumbers() {
        check.sentence("promise 9", "BAD if n is out of range.");
        for (int n = 1; n <= 20; n++) {
            check.due("insertCells(" + n + ")", aRow(20, "abcdefghijklmnopqrst", 0).insertCells(n), n);
        }
        for (int n : new int[] {MIN, -20, -1, 0, 21, 22, MAX}) {
            check.due("insertCells(" + n + ")", aRow(20, "abcdefghijklmnopqrst", 0).insertCells(n), BAD);
        }
    }

    private static void insertCellsFewer() {
        check.sentence("promise 9", "(if there are fewer cells from that of the cursor on, so many)");
        String[] due = {"ab_cde/", "ab__cd/", "ab___c/", "ab/", "ab/"};
        for (int n = 1; n <= 5; n++) {
            PouredScreen x = aRow(6, "abcdef", 2);
            check.due("insertCells(" + n + ") of four cells", x.insertCells(n), Math.min(4, n));
            check.due("the row behind it", Check.screen(x), due[n - 1]);
        }
        PouredScreen x = aRow(6, "abcdef", 5);
        check.due("insertCells(1) in the last cell", x.insertCells(1), 1);
        check.due("that cell alone", Check.screen(x), "abcde/");
        x = aRow(6, "abcdef", 5);
        check.due("insertCells(20) in the last cell", x.insertCells(20), 1);
        check.due("that cell alone, too", Check.screen(x), "abcde/");
        x = aRow(6, "abcdef", 0);
        check.due("insertCells(20) in the first cell", x.insertCells(20), 6);
        check.due("all cells", Check.screen(x), "/");
    }

    private static void insertCellsOnARightHalf() {
        check.sentence("promise 9", "(A wide sign whose right half is at the cursor becomes blank: its left half by the rule of "
            + "halves, its right half, too, ahead of moving.)");
        PouredScreen x = aRow(8, "aBcd", 2);
        check.due("insertCells(1) on a right half", x.insertCells(1), 2);
        check.due("both halves are blank, the right one has moved", Check.screen(x), "a___cd/");
        x = aRow(8, "aBcd", 1);
        check.due("insertCells(1) on a left half", x.insertCells(1), 0);
        check.due("the wide sign has moved", Check.screen(x), "a_BBcd/");
        x = aRow(4, "abC", 3);
        check.due("insertCells(1) on a right half in the last cell", x.insertCells(1), 2);
        check.due("both are blank", Check.screen(x), "ab/");
        x = aRow(4, "Abc", 1);
        check.due("insertCells(3) on a right half", x.insertCells(3), 4);
        check.due("all are blank", Check.screen(x), "/");
    }

    private static void insertCellsAnswers() {
        check.sentence("promise 9", "Returns how many cells of the row were not blank before minus how many are not blank then;");
        check.due("blank cells alone are lost", aRow(6, "ab", 0).insertCells(4), 0);
        check.due("one sign is lost", aRow(6, "ab", 0).insertCells(5), 1);
        check.due("a blank row", aRow(6, "", 3).insertCells(2), 0);
        check.due("a wide sign is lost", aRow(6, "abcdE", 0).insertCells(2), 2);
        check.due("half a wide sign is lost", aRow(6, "abcdE", 0).insertCells(1), 2);
        check.due("one and a half are lost", aRow(6, "abCD", 1).insertCells(3), 4);
    }

    // ---- 10: deleteCells

    private static void deleteCellsNumbers() {
        check.sentence("promise 10", "BAD if n is out of range.");
        for (int n = 1; n <= 20; n++) {
            check.due("deleteCells(" + n + ")", aRow(20, "abcdefghijklmnopqrst", 0).deleteCells(n), n);
        }
        for (int n : new int[] {MIN, -20, -1, 0, 21, 22, MAX}) {
            check.due("deleteCells(" + n + ")", aRow(20, "abcdefghijklmnopqrst", 0).deleteCells(n), BAD);
        }
    }

    private static void deleteCellsFewer() {
        check.sentence("promise 10", "(if there are fewer cells from that of the cursor on, so many)");
        String[] due = {"abdef/", "abef/", "abf/", "ab/", "ab/"};
        for (int n = 1; n <= 5; n++) {
            PouredScreen x = aRow(6, "abcdef", 2);
            check.due("deleteCells(" + n + ") of four cells", x.deleteCells(n), Math.min(4, n));
            check.due("the row behind it", Check.screen(x), due[n - 1]);
        }
        PouredScreen x = aRow(6, "abcdef", 5);
        check.due("deleteCells(1) in the last cell", x.deleteCells(1), 1);
        check.due("that cell alone", Check.screen(x), "abcde/");
        x = aRow(6, "abcdef", 5);
        check.due("deleteCells(20) in the last cell", x.deleteCells(20), 1);
        check.due("that cell alone, too", Check.screen(x), "abcde/");
        x = aRow(6, "abcdef", 0);
        check.due("deleteCells(20) in the first cell", x.deleteCells(20), 6);
        check.due("all cells", Check.screen(x), "/");
    }

    private static void deleteCellsAnswers() {
        check.sentence("promise 10", "Returns how many cells of the row were not blank before minus how many are not blank then;");
        check.due("blank cells", aRow(6, "a  b", 1).deleteCells(2), 0);
        check.due("a blank row", aRow(6, "", 3).deleteCells(2), 0);
        check.due("a right half", aRow(6, "aBcd", 2).deleteCells(1), 2);
        check.due("a left half", aRow(6, "aBcd", 1).deleteCells(1), 2);
        check.due("two halves of two signs", aRow(6, "aBCd", 2).deleteCells(2), 4);
        check.due("a sign and a half", aRow(6, "aBCd", 0).deleteCells(2), 3);
        check.due("all cells", aRow(6, "aBCd", 0).deleteCells(6), 6);
    }

    private static void movedCells() {
        check.sentence("promise 10", "All cells from that of the cursor on count as moved.");
        for (int n : new int[] {1, 3, 4, 20}) {
            PouredScreen x = Check.typed(4, 3, "abcDe");
            x.moveTo(0, 0);
            x.deleteCells(n);
            check.due("marks behind deleteCells(" + n + ")", Check.marks(x), "|---");
        }
        check.sentence("promise 9", "All cells from that of the cursor on count as moved.");
        for (int n : new int[] {1, 3, 4, 20}) {
            PouredScreen x = Check.typed(4, 3, "abcDe");
            x.moveTo(0, 0);
            x.insertCells(n);
            check.due("marks behind insertCells(" + n + ")", Check.marks(x), "|---");
        }
    }

    private static void cursorStays() {
        check.sentence("promise 5", "---- erasing, inserting, deleting; the cursor stays");
        for (int cell = 0; cell < 24; cell++) {
            for (int which = 0; which <= 9; which++) {
                PouredScreen x = lettered(cell / 8, cell % 8);
                erased(x, which);
                check.due("the cursor behind change " + which, Check.place(x, 0), cell / 8 + "," + cell % 8);
            }
        }
    }

    private static void erased(PouredScreen x, int which) {
        switch (which) {
            case 0: x.eraseLine(0); break;
            case 1: x.eraseLine(1); break;
            case 2: x.eraseLine(2); break;
            case 3: x.eraseScreen(0); break;
            case 4: x.eraseScreen(1); break;
            case 5: x.eraseScreen(2); break;
            case 6: x.insertRows(2); break;
            case 7: x.deleteRows(2); break;
            case 8: x.insertCells(2); break;
            default: x.deleteCells(2); break;
        }
    }

    // ---- 11: keep

    private static void keepThree() {
        check.sentence("promise 11", "Returns how many are kept then; FULL if 3 are kept.");
        PouredScreen x = new PouredScreen();
        check.due("the first keep()", x.keep(), 1);
        check.due("the second keep()", x.keep(), 2);
        check.due("the third keep()", x.keep(), 3);
        check.due("the fourth keep()", x.keep(), FULL);
        check.due("the fifth keep()", x.keep(), FULL);
        check.due("kept then", x.told(6), 3);
        x.back();
        check.due("keep() behind back()", x.keep(), 3);
        x.undo();
        check.due("keep() behind undo()", x.keep(), 3);
        x.resize(4, 2);
        check.due("keep() behind resize()", x.keep(), FULL);
    }

    private static void keepIsNotPending() {
        check.sentence("promise 11", "Keeps row and column of the cursor (not that it is pending);");
        PouredScreen x = Check.typed(4, 3, "abcd");
        x.keep();
        check.due("the kept one", Check.cursor(x, 1), "0,3:0,3");
        check.due("the cursor", Check.cursor(x, 0), "0,3:0,4p");
        x.back();
        check.due("behind back()", Check.cursor(x, 0), "0,3:0,3");
        x.feed('x');
        check.due("the sign comes there", Check.screen(x), "abcx//");
    }

    private static void keptWhenRowsMove() {
        check.sentence("promise 11", "they change by pouring alone, not when rows move.");
        PouredScreen x = Check.typed(6, 4, "a\nb\nc\nd");
        x.moveTo(1, 2);
        x.keep();
        x.moveTo(1, 0);
        x.insertRows(2);
        check.due("insertRows()", Check.place(x, 1), "1,2");
        x.moveTo(0, 0);
        x.deleteRows(1);
        check.due("deleteRows()", Check.place(x, 1), "1,2");
        x.moveTo(3, 0);
        x.feed(10);
        check.due("feed(10)", Check.place(x, 1), "1,2");
        x.moveTo(1, 0);
        x.insertCells(4);
        x.deleteCells(20);
        x.eraseScreen(2);
        x.setRegion(2, 3);
        check.due("other changes", Check.place(x, 1), "1,2");
        x.resize(6, 2);
        check.due("resize()", Check.place(x, 1), "1,2");
        x.resize(4, 8);
        check.due("resize() with the history", Check.place(x, 1), "2,2");
    }

    // ---- 12: back

    private static void backWithoutAny() {
        check.sentence("promise 12", "Returns how many are still kept; STATE if none is kept.");
        PouredScreen x = new PouredScreen();
        check.due("back() of a new object", x.back(), STATE);
        x.keep();
        x.keep();
        x.keep();
        check.due("back() of three", x.back(), 2);
        check.due("back() of two", x.back(), 1);
        check.due("back() of one", x.back(), 0);
        check.due("back() of none", x.back(), STATE);
        check.due("cursor(1, 0) then", x.cursor(1, 0), NONE);
        x.undo();
        check.due("back() behind undo()", x.back(), 0);
    }

    private static void backInOrder() {
        check.sentence("promise 12", "Moves the cursor to where the one was that was kept latest (and poured since then), which is "
            + "not kept any more.");
        PouredScreen x = Check.typed(10, 4, "abcdefghij");
        x.moveTo(0, 9);
        x.keep();
        x.moveTo(3, 3);
        x.keep();
        x.moveTo(0, 5);
        x.resize(5, 6);
        x.back();
        check.due("the latest, poured", Check.place(x, 0), "4,3");
        x.keep();
        x.moveTo(0, 0);
        x.back();
        check.due("the latest again", Check.place(x, 0), "4,3");
        x.back();
        check.due("the first, poured", Check.place(x, 0), "1,4");
    }

    // ---- 13: resize

    private static void resizeArguments() {
        check.sentence("promise 13", "BAD if an argument is out of range.");
        for (int columns = 0; columns <= 25; columns++) {
            for (int rows = 0; rows <= 12; rows++) {
                boolean good = columns >= 4 && columns <= 20 && rows >= 2 && rows <= 8;
                PouredScreen x = new PouredScreen();
                check.due("resize(" + columns + ", " + rows + ")", x.resize(columns, rows), good ? 1 : BAD);
                check.due("W then", x.told(0), good ? columns : 10);
                check.due("H then", x.told(1), good ? rows : 4);
            }
        }
        int[][] wrong = {{MIN, 4}, {-10, 4}, {MAX, 4}, {10, MIN}, {10, -4}, {10, MAX}, {MAX, MAX}};
        for (int[] size : wrong) {
            check.due("resize(" + size[0] + ", " + size[1] + ")", new PouredScreen().resize(size[0], size[1]), BAD);
        }
    }

    private static void resizeToTheSameSize() {
        check.sentence("promise 13", "(also if the size is as before)");
        PouredScreen x = Check.typed(4, 3, "a\nb\nc\nd\ne");
        x.moveTo(0, 0);
        x.eraseScreen(2);
        check.due("history before", x.told(5), 2);
        check.due("resize(4, 3)", x.resize(4, 3), 3);
        check.due("the history comes to the screen", Check.screen(x), "a/b/");
        check.due("the cursor, too", Check.place(x, 0), "2,0");
        check.due("no history", x.told(5), 0);
        x = Check.typed(4, 3, "abcde");
        x.moveTo(1, 0);
        x.eraseLine(2);
        check.due("resize(4, 3) with a wrap into a blank row", x.resize(4, 3), 1);
        check.due("the wrap is gone", Check.marks(x), "|---");
        x.setRegion(1, 2);
        x.resize(4, 3);
        check.due("the region is as at first", x.told(2), 0);
    }

    private static void resizeAnswers() {
        check.sentence("promise 13", "Returns the number of rows into which the lines were poured;");
        PouredScreen x = Check.sized(20, 8);
        for (int k = 0; k < 8; k++) {
            Check.type(x, "abcdefghijklmnopqrst" + (k < 7 ? "\n" : ""));
        }
        check.due("more than there is room for", x.resize(4, 2), 40);
        check.due("what was kept of them", x.resize(4, 8), 26);
        check.due("in 20 columns", x.resize(20, 8), 6);
        x.eraseScreen(2);
        x.moveTo(7, 0);
        check.due("blank rows down to the cursor", x.resize(20, 2), 8);
        x.moveTo(0, 0);
        check.due("the history and row 0", x.resize(20, 8), 7);
        check.due("a blank screen", new PouredScreen().resize(20, 8), 1);
    }

    // ---- 14: cell

    private static void cellArguments() {
        check.sentence("promise 14", "32 for a blank cell; BAD if an argument is out of range.");
        PouredScreen x = Check.typed(4, 2, "abcdefgh");
        for (int row = -3; row <= 4; row++) {
            for (int column = -3; column <= 7; column++) {
                boolean good = row >= 0 && row < 2 && column >= 0 && column < 4;
                check.due("cell(" + row + ", " + column + ")", x.cell(row, column), good ? 'a' + 4 * row + column : BAD);
            }
        }
        int[][] wrong = {{MIN, 0}, {MAX, 0}, {0, MIN}, {0, MAX}};
        for (int[] place : wrong) {
            check.due("cell(" + place[0] + ", " + place[1] + ")", x.cell(place[0], place[1]), BAD);
        }
        x.feed('i');
        check.due("cell(-1, 0) with a history", x.cell(-1, 0), BAD);
    }

    private static void cellAnswers() {
        check.sentence("promise 14", "Returns the sign, in both halves if it is wide; 32 for a blank cell;");
        PouredScreen x = Check.typed(4, 2, "AZ!");
        int[] due = {65, 65, 90, 90, 33, 32, 32, 32};
        for (int cell = 0; cell < 8; cell++) {
            check.due("cell " + cell, x.cell(cell / 4, cell % 4), due[cell]);
        }
    }

    // ---- 15: row

    private static void rowArguments() {
        check.sentence("promise 15", "BAD if an argument is out of range.");
        PouredScreen x = new PouredScreen();
        int[] rows = {MIN, -26, -25, 4, 5, MAX};
        for (int row : rows) {
            check.due("row(" + row + ", 0)", x.row(row, 0), BAD);
        }
        for (int what : new int[] {MIN, -1, 4, 5, MAX}) {
            check.due("row(0, " + what + ")", x.row(0, what), BAD);
            check.due("row(-1, " + what + ")", x.row(-1, what), BAD);
        }
        check.due("row(3, 3)", x.row(3, 3), 0);
        check.due("row(7, 0) of 8 rows", Check.sized(10, 8).row(7, 0), 0);
        check.due("row(8, 0) of 8 rows", Check.sized(10, 8).row(8, 0), BAD);
        check.due("row(2, 0) of 2 rows", Check.sized(10, 2).row(2, 0), BAD);
    }

    private static void rowsOfTheHistory() {
        check.sentence("promise 15", "NONE if the history has not so many rows;");
        PouredScreen x = Check.typed(4, 2, "a\nb");
        for (int k = 0; k <= 25; k++) {
            for (int row = 1; row <= 24; row++) {
                check.due("row(-" + row + ", 2) of " + k, x.row(-row, 2), row <= k ? 1 : NONE);
            }
            Check.type(x, "\nc");
        }
        check.sentence("promise 15", "or -1 to -24 for a row of the history (-1 for the latest one)");
        x = Check.typed(4, 2, "abcd\nefg\nhi\nj\n");
        check.due("the latest row", x.row(-1, 2), 2);
        check.due("the one before", x.row(-2, 2), 3);
        check.due("the oldest one", x.row(-3, 2), 4);
        check.due("none before", x.row(-4, 2), NONE);
    }

    private static void rowNumbers() {
        check.sentence("promise 15", "2 for the number of its cells up to the last one that is not blank (0 for a blank row), "
            + "3 for the number of its signs that are not blank");
        String[] texts = {"", "    ", "a", " a", "   a", "abcd", "A", "  A", " A", "AB", "a b"};
        int[] cells = {0, 0, 1, 2, 4, 4, 2, 4, 3, 4, 3};
        int[] signs = {0, 0, 1, 1, 1, 4, 1, 1, 1, 2, 2};
        for (int k = 0; k < texts.length; k++) {
            PouredScreen x = Check.typed(4, 2, texts[k]);
            check.due("the cells of '" + texts[k] + "'", x.row(0, 2), cells[k]);
            check.due("the signs of '" + texts[k] + "'", x.row(0, 3), signs[k]);
        }
    }

    // ---- 16: line

    private static void lineArguments() {
        check.sentence("promise 16", "NONE if there are not so many lines; BAD if line is negative or what is not 0 to 2.");
        PouredScreen x = Check.typed(4, 3, "a\nb\nc\nd");
        for (int what = 0; what <= 2; what++) {
            check.due("line(3, " + what + ")", x.line(3, what), what == 2 ? 0 : 1);
            check.due("line(4, " + what + ")", x.line(4, what), NONE);
            check.due("line(MAX, " + what + ")", x.line(MAX, what), NONE);
            check.due("line(-1, " + what + ")", x.line(-1, what), BAD);
            check.due("line(MIN, " + what + ")", x.line(MIN, what), BAD);
        }
        for (int what : new int[] {MIN, -1, 3, MAX}) {
            check.due("line(0, " + what + ")", x.line(0, what), BAD);
            check.due("line(4, " + what + ")", x.line(4, what), BAD);
        }
    }

    private static void lineNumbers() {
        check.sentence("promise 16", "0 for the number of its signs, 1 for the number of its rows, 2 for the number of these that "
            + "are in the history");
        PouredScreen x = Check.typed(4, 2, "a\nbcdefghijk");
        check.due("the marks", Check.marks(x), "-w|w-");
        int[][] due = {{1, 1, 1}, {10, 3, 1}};
        for (int line = 0; line <= 1; line++) {
            for (int what = 0; what <= 2; what++) {
                check.due("line(" + line + ", " + what + ")", x.line(line, what), due[line][what]);
            }
        }
        x = Check.typed(4, 2, "bcdefgh\n\n");
        check.due("all its rows in the history", x.line(0, 2), 2);
        check.due("none of its rows in the history", x.line(1, 2), 0);
        check.due("a line without signs", x.line(1, 0), 0);
        check.due("it has a row", x.line(1, 1), 1);
    }

    // ---- 17: sign

    private static void signArguments() {
        check.sentence("promise 17", "BAD if an argument is negative.");
        PouredScreen x = Check.typed(4, 3, "abcdef");
        int[][] wrong = {{-1, 0}, {0, -1}, {-1, -1}, {MIN, 0}, {0, MIN}, {MIN, MIN}, {MAX, -1}, {-1, MAX}, {5, -1}};
        for (int[] pair : wrong) {
            check.due("sign(" + pair[0] + ", " + pair[1] + ")", x.sign(pair[0], pair[1]), BAD);
        }
    }

    private static void signsThereAreNot() {
        check.sentence("promise 17", "Returns the sign, 32 for a blank; NONE if there are not so many lines, or signs in it;");
        PouredScreen x = Check.typed(4, 3, "ab  eF\n");
        check.due("the first sign", x.sign(0, 0), 'a');
        check.due("a blank", x.sign(0, 3), 32);
        check.due("the last sign", x.sign(0, 5), 'F');
        check.due("one more", x.sign(0, 6), NONE);
        check.due("a line without signs", x.sign(1, 0), NONE);
        check.due("no such line", x.sign(2, 0), NONE);
        check.due("sign(0, MAX)", x.sign(0, MAX), NONE);
        check.due("sign(MAX, 0)", x.sign(MAX, 0), NONE);
        check.due("sign(MAX, MAX)", x.sign(MAX, MAX), NONE);
        for (int k : new int[] {639, 640, 641}) {
            check.due("sign(0, " + k + ")", x.sign(0, k), NONE);
        }
    }

    // ---- 18: cursor

    private static void cursorArguments() {
        check.sentence("promise 18", "BAD if an argument is out of range.");
        PouredScreen x = new PouredScreen();
        for (int kept = 0; kept <= 3; kept++) {
            for (int wrong : new int[] {MIN, -1, 4, MAX}) {
                check.due("cursor(" + wrong + ", 0)", x.cursor(wrong, 0), BAD);
                check.due("cursor(0, " + wrong + ")", x.cursor(0, wrong), BAD);
                check.due("cursor(3, " + wrong + ")", x.cursor(3, wrong), BAD);
            }
            check.due("cursor(0, 3)", x.cursor(0, 3), 0);
            x.keep();
        }
    }

    private static void cursorsThereAreNot() {
        check.sentence("promise 18", "NONE if there are not so many kept ones;");
        PouredScreen x = new PouredScreen();
        for (int kept = 0; kept <= 3; kept++) {
            for (int which = 1; which <= 3; which++) {
                for (int what = 0; what <= 3; what++) {
                    // The one that was kept as number k is in row k and column k, a line of its own.
                    int due = which <= kept ? kept - which : NONE;
                    check.due("cursor(" + which + ", " + what + ") of " + kept, x.cursor(which, what), due);
                }
            }
            x.moveTo(kept, kept);
            x.keep();
        }
    }

    // ---- 19: ifWidth

    private static void ifWidthArguments() {
        check.sentence("promise 19", "BAD if columns is out of range.");
        PouredScreen x = Check.typed(20, 2, "abcdefghijklmnopqrst");
        int[] due = {5, 4, 4, 3, 3, 3, 2, 2, 2, 2, 2, 2, 2, 2, 2, 2, 1};
        for (int columns = 4; columns <= 20; columns++) {
            check.due("ifWidth(" + columns + ")", x.ifWidth(columns), due[columns - 4]);
        }
        for (int columns : new int[] {MIN, -4, -1, 0, 1, 2, 3, 21, 22, 40, MAX}) {
            check.due("ifWidth(" + columns + ")", x.ifWidth(columns), BAD);
        }
    }

    private static void ifWidthChangesNothing() {
        check.sentence("promise 19", "Nothing changes.");
        PouredScreen x = Check.typed(5, 2, "abCdE fghij");
        long before = x.digest();
        for (int columns = 4; columns <= 20; columns++) {
            x.ifWidth(columns);
            check.due("digest() behind ifWidth(" + columns + ")", x.digest(), before);
        }
        check.sentence("promise 20", "Nothing changes.");
        for (int rows = 1; rows <= 40; rows++) {
            x.widthFor(rows);
        }
        check.due("digest() behind widthFor()", x.digest(), before);
    }

    // ---- 20: widthFor

    private static void widthForArguments() {
        check.sentence("promise 20", "BAD if rows is out of range.");
        PouredScreen x = new PouredScreen();
        for (int rows : new int[] {MIN, -1, 0, 41, 42, MAX}) {
            check.due("widthFor(" + rows + ")", x.widthFor(rows), BAD);
        }
        check.due("widthFor(1)", x.widthFor(1), 4);
        check.due("widthFor(40)", x.widthFor(40), 4);
    }

    private static void widthForNone() {
        check.sentence("promise 20", "Returns the width; NONE if there is none from 4 to 20;");
        PouredScreen x = Check.typed(20, 2, "abcdefghijklmnopqrst");
        check.due("a line of 20 in one row", x.widthFor(1), 20);
        x.feed('u');
        check.due("a line of 21 in one row", x.widthFor(1), NONE);
        check.due("a line of 21 in two rows", x.widthFor(2), 11);
        x = Check.typed(10, 4, "a\nb\nc\nd");
        check.due("four lines in four rows", x.widthFor(4), 4);
        check.due("four lines in three rows", x.widthFor(3), NONE);
    }

    private static void widthForSmallest() {
        check.sentence("promise 20", "Finds the smallest width with which the lines would be poured into at most some rows.");
        PouredScreen x = Check.typed(20, 2, "abcdefghijklmnopqrst");
        int[] due = {20, 10, 7, 5, 4, 4};
        for (int rows = 1; rows <= 6; rows++) {
            check.due("widthFor(" + rows + ")", x.widthFor(rows), due[rows - 1]);
        }
        x = Check.typed(20, 2, "ABCDEFGHIJ");
        int[] wide = {20, 10, 8, 6, 4, 4};
        for (int rows = 1; rows <= 6; rows++) {
            check.due("widthFor(" + rows + ") of wide signs", x.widthFor(rows), wide[rows - 1]);
        }
    }

    // ---- 21: told

    private static void toldArguments() {
        check.sentence("promise 21", "Returns the number; BAD if what is not 0 to 10.");
        PouredScreen x = new PouredScreen();
        for (int what : new int[] {MIN, -11, -1, 11, 12, MAX}) {
            check.due("told(" + what + ")", x.told(what), BAD);
        }
        check.due("told(0)", x.told(0), 10);
        check.due("told(10)", x.told(10), 0);
    }

    private static void toldNumbers() {
        check.sentence("promise 21", "`what`: 0 for W, 1 for H, 2 for the first and 3 for the last row of the region, 4 for 1 if "
            + "the cursor is pending and 0 if not, 5 for the rows of the history, 6 for the kept cursors, 7 for the lines, 8 for "
            + "the rows that count, 9 for the cells of the screen that are not blank, 10 for the remembered states");
        PouredScreen x = allFull();
        int[] due = {20, 8, 0, 7, 1, 24, 3, 32, 32, 160, 8};
        for (int what = 0; what <= 10; what++) {
            check.due("told(" + what + ") with all full", x.told(what), due[what]);
        }
    }

    /** Each limit is reached: 32 lines of 20 columns, all cells of the screen, three kept cursors, eight states. */
    private static PouredScreen allFull() {
        PouredScreen x = Check.sized(20, 8);
        x.moveTo(7, 0);
        for (int k = 0; k < 31; k++) {
            x.feed(k % 2 == 0 ? 'a' : 'Z');
            x.feed(13);
            x.feed(10);
        }
        x.keep();
        x.keep();
        x.moveTo(0, 0);
        for (int row = 0; row < 8; row++) {
            Check.type(x, "ABCdefghijklmnoP" + (row < 7 ? "\n" : ""));
        }
        x.keep();
        return x;
    }

    // ---- 22: undo

    private static void undoWithoutAny() {
        check.sentence("promise 22", "Returns how many states are still remembered; STATE if there is none.");
        PouredScreen x = new PouredScreen();
        check.due("undo() of a new object", x.undo(), STATE);
        x.feed('a');
        check.due("undo() of one", x.undo(), 0);
        check.due("undo() of none", x.undo(), STATE);
        x.feed('a');
        x.resize(4, 2);
        x.keep();
        check.due("undo() of three", x.undo(), 2);
        check.due("undo() of two", x.undo(), 1);
        check.due("the size is as before", x.told(0), 10);
        check.due("undo() of the last one", x.undo(), 0);
        check.due("undo() then", x.undo(), STATE);
        check.due("a blank screen", x.told(9), 0);
    }

    // ---- 23: digest

    /** The hash of what the other methods tell, computed without bound and brought to 64 bits at the end. */
    private static long computed(PouredScreen x) {
        Sum sum = new Sum();
        for (int what = 0; what <= 10; what++) {
            sum.add(x.told(what));
        }
        for (int row = -x.told(5); row < x.told(1); row++) {
            for (int what = 0; what <= 3; what++) {
                sum.add(x.row(row, what));
            }
        }
        for (int row = 0; row < x.told(1); row++) {
            for (int column = 0; column < x.told(0); column++) {
                sum.add(x.cell(row, column));
            }
        }
        for (int line = 0; line < x.told(7); line++) {
            for (int what = 0; what <= 2; what++) {
                sum.add(x.line(line, what));
            }
            for (int k = 0; k < x.line(line, 0); k++) {
                sum.add(x.sign(line, k));
            }
        }
        for (int which = 0; which <= x.told(6); which++) {
            for (int what = 0; what <= 3; what++) {
                sum.add(x.cursor(which, what));
            }
        }
        for (int columns = 4; columns <= 20; columns++) {
            sum.add(x.ifWidth(columns));
        }
        return sum.h.longValue();
    }

    private static final class Sum {
        private BigInteger h = BigInteger.valueOf(43174);

        void add(int value) {
            h = h.multiply(BigInteger.valueOf(31)).add(BigInteger.valueOf(value));
        }
    }

    private static void digestWrapsAround() {
        check.sentence("promise 23", "then h becomes 31 * h + v (long arithmetic that wraps around) for each of these values v");
        check.due("digest() of a new object", new PouredScreen().digest(), computed(new PouredScreen()));
        PouredScreen x = allFull();
        check.due("digest() with all full", x.digest(), computed(x));
        x.resize(4, 2);
        check.due("digest() with all full in 4 columns", x.digest(), computed(x));
        x.resize(20, 8);
        check.due("digest() with all full in 20 columns again", x.digest(), computed(x));
        x = Check.fullestLine();
        check.due("digest() with the fullest line", x.digest(), computed(x));
    }

    private static void digestOfAll() {
        check.sentence("promise 23", "Computes a hash of the whole object.");
        PouredScreen x = new PouredScreen();
        Check.type(x, "aB");
        x.keep();
        check.due("digest()", x.digest(), computed(x));
        long before = x.digest();
        check.due("digest() once more", x.digest(), before);
        x.moveTo(0, 3);
        check.due("all as before, but one more state", x.digest() == before ? 1 : 0, 0);
        x.undo();
        check.due("digest() behind undo()", x.digest(), before);
        x.feed('c');
        check.due("a sign", x.digest() == before ? 1 : 0, 0);
        x = Check.typed(6, 3, "aBc d\nefGhijK\nl");
        check.due("digest() of more lines", x.digest(), computed(x));
        x.setRegion(0, 1);
        x.moveTo(0, 2);
        long region = x.digest();
        x.setRegion(1, 2);
        x.moveTo(0, 2);
        check.due("another region", x.digest() == region ? 1 : 0, 0);
    }
}
