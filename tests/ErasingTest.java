/** Promises 5 to 10: eraseLine, eraseScreen, insertRows, deleteRows, insertCells, deleteCells. */
public final class ErasingTest {
    private static final Check check = new Check("ErasingTest");

    public static void main(String[] args) {
        erasingInARow();
        erasingALineMarks();
        erasingTheScreen();
        insertingRows();
        insertingRowsMarks();
        deletingRows();
        deletingRowsMarks();
        insertingCells();
        deletingCells();
        pendingIsGone();
        wrongArguments();
        check.end();
    }

    /** Three rows of nine letters, a wide one at 3 and 4, and the cursor in the middle one. */
    private static PouredScreen filled(int column) {
        PouredScreen x = Check.sized(8, 3);
        Check.type(x, "abcXfgh\nijkYnop\nqrsZvwx");
        x.moveTo(1, column);
        return x;
    }

    private static void erasingInARow() {
        PouredScreen x = filled(2);
        check.due("5: eraseLine(0)", x.eraseLine(0), 6);
        check.due("5: from the cursor on", Check.screen(x), "abcXXfgh/ij/qrsZZvwx");
        check.due("5: the cursor stays", Check.cursor(x, 0), "1,2:1,2");
        x = filled(2);
        check.due("5: eraseLine(1)", x.eraseLine(1), 3);
        check.due("5: up to the cursor", Check.screen(x), "abcXXfgh/___YYnop/qrsZZvwx");
        x = filled(2);
        check.due("5: eraseLine(2)", x.eraseLine(2), 8);
        check.due("5: all", Check.screen(x), "abcXXfgh//qrsZZvwx");
        check.due("5: eraseLine(2) once more", x.eraseLine(2), 0);
        x = filled(4);
        check.due("5: eraseLine(0) on a right half", x.eraseLine(0), 5);
        check.due("5: its left half becomes blank", Check.screen(x), "abcXXfgh/ijk/qrsZZvwx");
        x = filled(3);
        check.due("5: eraseLine(1) on a left half", x.eraseLine(1), 5);
        check.due("5: its right half becomes blank", Check.screen(x), "abcXXfgh/_____nop/qrsZZvwx");
        x = new PouredScreen();
        int states = x.told(10);
        check.due("5: eraseLine(0) on a blank row", x.eraseLine(0), 0);
        check.due("5: it is a change all the same", x.told(10), states + 1);
    }

    private static void erasingALineMarks() {
        String wrapped = "abcdefghi";
        PouredScreen x = Check.sized(4, 3);
        Check.type(x, wrapped);
        x.moveTo(1, 2);
        x.eraseLine(1);
        check.due("5: kind 1 ahead of the last cell", Check.marks(x), "|ww-");
        x.eraseLine(0);
        check.due("5: the last cell is erased", Check.marks(x), "|w--");
        x.moveTo(0, 3);
        x.eraseLine(1);
        check.due("5: kind 1 with the last cell", Check.marks(x), "|---");
        x = Check.sized(4, 3);
        Check.type(x, "abCd");
        x.moveTo(0, 2);
        x.eraseLine(1);
        check.due("5: the last cell becomes blank as a half", Check.marks(x), "|---");
        x = Check.sized(4, 3);
        Check.type(x, wrapped);
        x.moveTo(1, 0);
        x.eraseLine(2);
        check.due("5: the row behind an erased one is the same", Check.marks(x), "|w--");
        check.due("5: so is its line", Check.lines(x), "abcd/i");
        x = Check.sized(4, 3);
        Check.type(x, "abcDe");
        x.moveTo(0, 3);
        check.due("5: the blank of a gap is erased", x.eraseLine(0), 0);
        check.due("5: so is the gap", Check.marks(x), "|---");
    }

    private static void erasingTheScreen() {
        PouredScreen x = filled(2);
        check.due("6: eraseScreen(0)", x.eraseScreen(0), 14);
        check.due("6: from the cursor on", Check.screen(x), "abcXXfgh/ij/");
        check.due("6: the cursor stays", Check.cursor(x, 0), "1,2:1,2");
        x = filled(2);
        check.due("6: eraseScreen(1)", x.eraseScreen(1), 11);
        check.due("6: up to the cursor", Check.screen(x), "/___YYnop/qrsZZvwx");
        x = filled(2);
        check.due("6: eraseScreen(2)", x.eraseScreen(2), 24);
        check.due("6: all", Check.screen(x), "//");
        x = filled(4);
        check.due("6: eraseScreen(0) on a right half", x.eraseScreen(0), 13);
        check.due("6: the rest", Check.screen(x), "abcXXfgh/ijk/");
        x = filled(3);
        check.due("6: eraseScreen(1) on a left half", x.eraseScreen(1), 13);
        check.due("6: the rest of it", Check.screen(x), "/_____nop/qrsZZvwx");
        x = Check.sized(4, 3);
        Check.type(x, "abcdefghijklmnopq");
        x.moveTo(1, 0);
        int states = x.told(10);
        x.eraseScreen(1);
        check.due("6: marks of the rows before", Check.marks(x), "ww|-w-");
        x.eraseScreen(0);
        check.due("6: marks from the cursor on", Check.marks(x), "ww|---");
        check.due("6: the history is not erased", Check.lines(x), "abcdefgh/");
        check.due("6: it is a change", x.told(10), Math.min(8, states + 2));
    }

    private static PouredScreen fiveRows() {
        PouredScreen x = Check.sized(6, 5);
        Check.type(x, "a\nb\nc\nd\ne");
        return x;
    }

    private static void insertingRows() {
        PouredScreen x = fiveRows();
        x.moveTo(1, 3);
        check.due("7: insertRows(1)", x.insertRows(1), 1);
        check.due("7: rows move down", Check.screen(x), "a//b/c/d");
        check.due("7: the cursor stays", Check.cursor(x, 0), "1,3:1,3");
        check.due("7: insertRows(2)", x.insertRows(2), 2);
        check.due("7: two of them", Check.screen(x), "a////b");
        check.due("7: insertRows(8)", x.insertRows(8), 1);
        check.due("7: all that there are", Check.screen(x), "a////");
        check.due("7: insertRows(1) of blank ones", x.insertRows(1), 0);
        check.due("7: nothing goes to the history", x.told(5), 0);
        x = fiveRows();
        x.setRegion(1, 3);
        check.due("7: insertRows ahead of the region", x.insertRows(1), PouredScreen.STATE);
        x.moveTo(4, 0);
        check.due("7: insertRows behind the region", x.insertRows(1), PouredScreen.STATE);
        check.due("7: a wrong number is told first", x.insertRows(9), PouredScreen.BAD);
        x.moveTo(3, 0);
        check.due("7: insertRows in its last row", x.insertRows(2), 1);
        check.due("7: that row alone", Check.screen(x), "a/b/c//e");
        x.moveTo(1, 0);
        check.due("7: insertRows in its first row", x.insertRows(1), 0);
        check.due("7: down to its end", Check.screen(x), "a//b/c/e");
    }

    private static void insertingRowsMarks() {
        PouredScreen x = Check.sized(4, 4);
        Check.type(x, "abcdefghijklmnopqrstuvwx");
        check.due("7: all rows wrap", Check.marks(x), "ww|www-");
        x.moveTo(1, 0);
        x.insertRows(1);
        check.due("7: the row above and the last one lose theirs", Check.marks(x), "ww|--w-");
        x.undo();
        x.moveTo(0, 0);
        x.insertRows(1);
        check.due("7: the history, too", Check.marks(x), "w-|-ww-");
        x.undo();
        x.setRegion(0, 2);
        x.insertRows(1);
        check.due("7: the last row of the region", Check.marks(x), "w-|-w--");
        check.due("7: its lines", Check.lines(x), "abcdefgh//ijklmnop/uvwx");
        x.undo();
        x.moveTo(1, 0);
        x.insertRows(2);
        check.due("7: as many as there are", Check.marks(x), "ww|----");
        x.undo();
        x.moveTo(2, 0);
        x.insertRows(1);
        check.due("7: the last one alone", Check.marks(x), "ww|w---");
    }

    private static void deletingRows() {
        PouredScreen x = fiveRows();
        x.moveTo(1, 3);
        check.due("8: deleteRows(1)", x.deleteRows(1), 1);
        check.due("8: rows move up", Check.screen(x), "a/c/d/e/");
        check.due("8: the cursor stays", x.cursor(0, 0) * 10 + x.cursor(0, 1), 13);
        check.due("8: deleteRows(2)", x.deleteRows(2), 2);
        check.due("8: two of them", Check.screen(x), "a/e///");
        check.due("8: deleteRows(8)", x.deleteRows(8), 1);
        check.due("8: all that there are", Check.screen(x), "a////");
        check.due("8: deleteRows(1) of a blank one", x.deleteRows(1), 0);
        x.moveTo(0, 0);
        check.due("8: deleteRows in row 0", x.deleteRows(1), 1);
        check.due("8: nothing goes to the history", x.told(5), 0);
        x = fiveRows();
        x.setRegion(1, 3);
        check.due("8: deleteRows ahead of the region", x.deleteRows(1), PouredScreen.STATE);
        x.moveTo(4, 0);
        check.due("8: deleteRows behind the region", x.deleteRows(1), PouredScreen.STATE);
        check.due("8: a wrong number is told first", x.deleteRows(0), PouredScreen.BAD);
        x.moveTo(2, 0);
        check.due("8: deleteRows within it", x.deleteRows(1), 1);
        check.due("8: up from its end", Check.screen(x), "a/b/d//e");
        x.moveTo(1, 0);
        check.due("8: deleteRows in its first row", x.deleteRows(3), 2);
        check.due("8: it is blank", Check.screen(x), "a////e");
    }

    private static void deletingRowsMarks() {
        PouredScreen x = Check.sized(4, 4);
        Check.type(x, "abcdefghijklmnopqrstuvwx");
        x.moveTo(1, 0);
        x.deleteRows(1);
        check.due("8: the row above loses its wrap", Check.marks(x), "ww|-w--");
        check.due("8: its lines", Check.lines(x), "abcdefghijkl/qrstuvwx");
        x.undo();
        x.moveTo(0, 0);
        x.deleteRows(1);
        check.due("8: the history, too", Check.marks(x), "w-|ww--");
        x.undo();
        x.setRegion(0, 2);
        x.deleteRows(1);
        check.due("8: the last row of the region", Check.marks(x), "w-|w---");
        x.undo();
        x.moveTo(2, 0);
        x.deleteRows(8);
        check.due("8: the last one alone", Check.marks(x), "ww|w---");
    }

    private static void insertingCells() {
        PouredScreen x = Check.sized(8, 2);
        Check.type(x, "abCde");
        x.moveTo(0, 1);
        check.due("9: insertCells(1)", x.insertCells(1), 0);
        check.due("9: cells move to the right", Check.screen(x), "a_bCCde/");
        check.due("9: the cursor stays", Check.cursor(x, 0), "0,1:0,1");
        check.due("9: insertCells(2)", x.insertCells(2), 1);
        check.due("9: one is lost", Check.screen(x), "a___bCCd/");
        check.due("9: insertCells(2) through a wide sign", x.insertCells(2), 3);
        check.due("9: its left half becomes blank", Check.screen(x), "a_____b/");
        check.due("9: insertCells(20)", x.insertCells(20), 1);
        check.due("9: all behind the cursor are lost", Check.screen(x), "a/");
        x = Check.sized(8, 2);
        Check.type(x, "abCde");
        x.moveTo(0, 3);
        check.due("9: insertCells(1) on a right half", x.insertCells(1), 2);
        check.due("9: both halves become blank", Check.screen(x), "ab___de/");
        x.undo();
        check.due("9: insertCells(4) on a right half", x.insertCells(4), 4);
        check.due("9: the blank half moves", Check.screen(x), "ab/");
        x = Check.sized(4, 3);
        Check.type(x, "abcdefghi");
        x.moveTo(1, 0);
        x.insertCells(1);
        check.due("9: the row loses its wrap", Check.marks(x), "|w--");
        x = Check.sized(4, 3);
        Check.type(x, "abcDe");
        x.moveTo(0, 3);
        check.due("9: insertCells in the last cell", x.insertCells(1), 0);
        check.due("9: the row loses its gap", Check.marks(x), "|---");
    }

    private static void deletingCells() {
        PouredScreen x = Check.sized(8, 2);
        Check.type(x, "abcDefg");
        x.moveTo(0, 1);
        check.due("10: deleteCells(1)", x.deleteCells(1), 1);
        check.due("10: cells move to the left", Check.screen(x), "acDDefg/");
        check.due("10: the cursor stays", Check.cursor(x, 0), "0,1:0,1");
        check.due("10: deleteCells(2) cuts a wide sign", x.deleteCells(2), 3);
        check.due("10: its right half becomes blank", Check.screen(x), "a_efg/");
        check.due("10: deleteCells(20)", x.deleteCells(20), 3);
        check.due("10: all behind the cursor are gone", Check.screen(x), "a/");
        x = Check.sized(8, 2);
        Check.type(x, "abcDefg");
        x.moveTo(0, 4);
        check.due("10: deleteCells(1) on a right half", x.deleteCells(1), 2);
        check.due("10: its left half becomes blank", Check.screen(x), "abc_efg/");
        x = Check.sized(4, 3);
        Check.type(x, "abcdefghi");
        x.moveTo(1, 0);
        x.deleteCells(1);
        check.due("10: the row loses its wrap", Check.marks(x), "|w--");
        x = Check.sized(4, 3);
        Check.type(x, "abcDe");
        x.moveTo(0, 0);
        check.due("10: deleteCells ahead of a gap", x.deleteCells(1), 1);
        check.due("10: the row loses its gap", Check.marks(x), "|---");
    }

    private static void pendingIsGone() {
        for (int k = 0; k < 6; k++) {
            PouredScreen x = new PouredScreen();
            Check.type(x, "abcdefghij");
            switch (k) {
                case 0: check.due("5: eraseLine(0) when pending", x.eraseLine(0), 1); break;
                case 1: check.due("6: eraseScreen(1) when pending", x.eraseScreen(1), 10); break;
                case 2: check.due("7: insertRows(1) when pending", x.insertRows(1), 0); break;
                case 3: check.due("8: deleteRows(1) when pending", x.deleteRows(1), 1); break;
                case 4: check.due("9: insertCells(1) when pending", x.insertCells(1), 1); break;
                default: check.due("10: deleteCells(1) when pending", x.deleteCells(1), 1); break;
            }
            check.due((5 + k) + ": not pending behind it", x.told(4), 0);
            check.due((5 + k) + ": the column behind it", x.cursor(0, 1), 9);
        }
    }

    private static void wrongArguments() {
        PouredScreen x = new PouredScreen();
        Check.type(x, "abcdefghijk");
        long before = x.digest();
        for (int kind : new int[] {Integer.MIN_VALUE, -1, 3, 4, Integer.MAX_VALUE}) {
            check.due("5: eraseLine(" + kind + ")", x.eraseLine(kind), PouredScreen.BAD);
            check.due("6: eraseScreen(" + kind + ")", x.eraseScreen(kind), PouredScreen.BAD);
        }
        for (int n : new int[] {Integer.MIN_VALUE, -1, 0, 9, 10, Integer.MAX_VALUE}) {
            check.due("7: insertRows(" + n + ")", x.insertRows(n), PouredScreen.BAD);
            check.due("8: deleteRows(" + n + ")", x.deleteRows(n), PouredScreen.BAD);
        }
        for (int n : new int[] {Integer.MIN_VALUE, -1, 0, 21, 22, Integer.MAX_VALUE}) {
            check.due("9: insertCells(" + n + ")", x.insertCells(n), PouredScreen.BAD);
            check.due("10: deleteCells(" + n + ")", x.deleteCells(n), PouredScreen.BAD);
        }
        check.due("5 to 10: what is refused changes nothing", x.digest(), before);
    }
}
