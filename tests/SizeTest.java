/** Promises 11 to 13: keep, back, resize. */
public final class SizeTest {
    private static final Check check = new Check("SizeTest");

    public static void main(String[] args) {
        keeping();
        goingBack();
        keptCursorsStay();
        wrongSizes();
        pouringNarrower();
        pouringWider();
        pouringWideSigns();
        pouringBlanks();
        linesWithoutSigns();
        screenAndHistory();
        dropping();
        marksOnSigns();
        marksBehindTheLine();
        pending();
        offTheScreen();
        keptCursorsArePoured();
        trailingWrap();
        check.end();
    }

    private static void keeping() {
        PouredScreen x = new PouredScreen();
        x.moveTo(1, 2);
        check.due("11: keep()", x.keep(), 1);
        x.moveTo(3, 4);
        check.due("11: keep() again", x.keep(), 2);
        check.due("11: the latest one", Check.cursor(x, 1), "3,4:3,4");
        check.due("11: the one before", Check.cursor(x, 2), "1,2:1,2");
        check.due("11: keep() a third time", x.keep(), 3);
        int states = x.told(10);
        long before = x.digest();
        check.due("11: keep() a fourth time", x.keep(), PouredScreen.FULL);
        check.due("11: it changes nothing", x.digest(), before);
        check.due("11: it is a change", states, 5);
        x = new PouredScreen();
        Check.type(x, "abcdefghij");
        x.keep();
        check.due("11: the cursor is pending as before", Check.cursor(x, 0), "0,9:0,10p");
        check.due("11: the kept one is not", Check.cursor(x, 1), "0,9:0,9");
        Check.type(x, "k");
        check.due("11: it goes on behind keep()", Check.screen(x), "abcdefghij/k//");
    }

    private static void goingBack() {
        PouredScreen x = new PouredScreen();
        check.due("12: back() without any", x.back(), PouredScreen.STATE);
        check.due("12: that is no change", x.told(10), 0);
        for (int k = 0; k < 3; k++) {
            x.moveTo(k, 2 * k);
            x.keep();
        }
        x.moveTo(3, 9);
        check.due("12: back()", x.back(), 2);
        check.due("12: where the latest was", Check.cursor(x, 0), "2,4:2,4");
        check.due("12: it is not kept any more", x.told(6), 2);
        check.due("12: back() again", x.back(), 1);
        check.due("12: where the one before was", Check.cursor(x, 0), "1,2:1,2");
        check.due("12: back() a third time", x.back(), 0);
        check.due("12: where the first was", Check.cursor(x, 0), "0,0:0,0");
        check.due("12: back() a fourth time", x.back(), PouredScreen.STATE);
        x.undo();
        check.due("12: it is a change", x.told(6), 1);
        x = new PouredScreen();
        Check.type(x, "abcdefghij");
        x.keep();
        x.back();
        check.due("12: not pending behind it", Check.cursor(x, 0), "0,9:0,9");
        Check.type(x, "k");
        check.due("12: the sign comes there", Check.screen(x), "abcdefghik///");
    }

    private static void keptCursorsStay() {
        PouredScreen x = Check.sized(4, 2);
        x.moveTo(1, 3);
        x.keep();
        Check.type(x, "\n\n\nab");
        x.insertRows(1);
        x.insertCells(1);
        x.setRegion(0, 1);
        x.deleteRows(1);
        check.due("11: kept cursors stay when rows move", Check.cursor(x, 1).substring(0, 3), "1,3");
    }

    private static void wrongSizes() {
        PouredScreen x = new PouredScreen();
        Check.type(x, "abc");
        long before = x.digest();
        int[][] wrong = {{3, 4}, {21, 4}, {10, 1}, {10, 9}, {0, 0}, {-4, 4}, {Integer.MAX_VALUE, 4}, {10, Integer.MIN_VALUE}};
        for (int[] size : wrong) {
            check.due("13: resize(" + size[0] + ", " + size[1] + ")", x.resize(size[0], size[1]), PouredScreen.BAD);
        }
        check.due("13: wrong ones change nothing", x.digest(), before);
        for (int columns = 4; columns <= 20; columns++) {
            for (int rows = 2; rows <= 8; rows++) {
                check.due("13: resize(" + columns + ", " + rows + ")", x.resize(columns, rows), 1);
                check.due("13: columns", x.told(0), columns);
                check.due("13: rows", x.told(1), rows);
                check.due("13: first row of the region", x.told(2), 0);
                check.due("13: last row of the region", x.told(3), rows - 1);
            }
        }
        check.due("13: it is a change", x.told(10), 8);
    }

    private static void pouringNarrower() {
        PouredScreen x = new PouredScreen();
        Check.type(x, "abcdefghijklm\nno");
        check.due("13: resize(5, 4)", x.resize(5, 4), 4);
        check.due("13: lines are poured", Check.screen(x), "abcde/fghij/klm/no");
        check.due("13: their wraps", Check.marks(x), "|ww--");
        check.due("13: the cursor goes along", Check.cursor(x, 0), "3,2:1,2");
        check.due("13: resize(4, 4)", x.resize(4, 4), 5);
        check.due("13: the first row goes to the history", Check.screen(x), "efgh/ijkl/m/no");
        check.due("13: its wrap, too", Check.marks(x), "w|ww--");
    }

    private static void pouringWider() {
        PouredScreen x = Check.sized(4, 3);
        Check.type(x, "abcdefghij\nkl");
        check.due("13: the history before", x.told(5), 1);
        check.due("13: resize(8, 3)", x.resize(8, 3), 3);
        check.due("13: the history is poured, too", Check.screen(x), "abcdefgh/ij/kl");
        check.due("13: no history is left", x.told(5), 0);
        check.due("13: resize(20, 3)", x.resize(20, 3), 2);
        check.due("13: other rows are blank", Check.screen(x), "abcdefghij/kl/");
        check.due("13: no wraps are left", Check.marks(x), "|---");
        check.due("13: resize(20, 3) once more", x.resize(20, 3), 2);
        check.due("13: all as before", Check.screen(x), "abcdefghij/kl/");
    }

    private static void pouringWideSigns() {
        PouredScreen x = new PouredScreen();
        Check.type(x, "abcDeFgH");
        check.due("13: resize(4, 4) of wide signs", x.resize(4, 4), 4);
        check.due("13: they go on", Check.screen(x), "abc/DDe/FFg/HH");
        check.due("13: they leave gaps", Check.marks(x), "|ggg-");
        check.due("13: resize(5, 4)", x.resize(5, 4), 3);
        check.due("13: gaps are no cells of the line", Check.screen(x), "abcDD/eFFg/HH/");
        check.due("13: a wrap and a gap", Check.marks(x), "|wg--");
        x.resize(20, 4);
        check.due("13: as it was", Check.screen(x), "abcDDeFFgHH///");
        check.due("13: no gaps are left", Check.marks(x), "|----");
    }

    private static void pouringBlanks() {
        PouredScreen x = new PouredScreen();
        Check.type(x, " a  b     cd");
        check.due("13: resize(4, 5) of blanks", x.resize(4, 5), 3);
        check.due("13: blanks are poured as signs", Check.screen(x), "_a/b/__cd//");
        check.due("13: rows with blanks at their ends", Check.marks(x), "|ww---");
        check.due("13: the line", Check.lines(x), "_a__b_____cd");
        x = Check.sized(10, 2);
        Check.type(x, "a    ");
        x.resize(4, 2);
        check.due("13: blanks behind a line are not poured", Check.lines(x), "a");
        check.due("13: but the cursor is as far behind it", Check.cursor(x, 0), "0,3:0,3");
    }

    private static void linesWithoutSigns() {
        PouredScreen x = new PouredScreen();
        Check.type(x, "\n\na\n");
        check.due("13: resize(6, 5) of blank lines", x.resize(6, 5), 4);
        check.due("13: a line without signs is a blank row", Check.screen(x), "//a//");
        check.due("13: the cursor in one", Check.cursor(x, 0), "3,0:3,0");
        x = new PouredScreen();
        x.moveTo(1, 8);
        x.resize(5, 4);
        check.due("13: the cursor in a blank line, far off", Check.cursor(x, 0), "1,4:1,4");
    }

    private static void screenAndHistory() {
        PouredScreen x = Check.sized(6, 8);
        Check.type(x, "a\nb\nc\nd\ne");
        check.due("13: resize(6, 5)", x.resize(6, 5), 5);
        check.due("13: as many as H", Check.screen(x), "a/b/c/d/e");
        check.due("13: resize(6, 3)", x.resize(6, 3), 5);
        check.due("13: the last H are the screen", Check.screen(x), "c/d/e");
        check.due("13: those before are the history", x.told(5), 2);
        check.due("13: resize(6, 7)", x.resize(6, 7), 5);
        check.due("13: fewer than H", Check.screen(x), "a/b/c/d/e//");
        check.due("13: the history is empty", x.told(5), 0);
        x.moveTo(6, 0);
        check.due("13: rows down to the cursor count", x.resize(6, 4), 7);
        check.due("13: blank ones are poured", Check.screen(x), "d/e//");
        x.moveTo(0, 0);
        check.due("13: rows behind the cursor do not", x.resize(6, 4), 5);
        check.due("13: the screen then", Check.screen(x), "b/c/d/e");
    }

    private static void dropping() {
        PouredScreen x = Check.sized(20, 2);
        for (int k = 0; k < 25; k++) {
            Check.type(x, (char) ('a' + k) + "12345\n");
        }
        check.due("13: 24 rows of history", x.told(5), 24);
        check.due("13: the oldest one", x.sign(0, 0), 'a');
        check.due("13: resize(4, 2)", x.resize(4, 2), 51);
        check.due("13: the latest 24 are kept", x.told(5), 24);
        check.due("13: they begin in a line", Check.lines(x).substring(0, 8), "45/n1234");
        check.due("13: the wraps of rows that are kept", Check.marks(x), "-w-w-w-w-w-w-w-w-w-w-w-w|--");
        check.due("13: all of them", x.told(8), 26);
    }

    private static void marksOnSigns() {
        PouredScreen x = new PouredScreen();
        Check.type(x, "abCdefGhijkl");
        String[] places = {"0,0", "0,1", "0,2", "1,0", "1,0", "1,1", "1,2", "2,0", "2,2", "2,2"};
        for (int column = 0; column < 10; column++) {
            x.moveTo(0, column);
            x.resize(4, 4);
            check.due("13: the cursor at column " + column, Check.cursor(x, 0).substring(0, 3), places[column]);
            check.due("13: not pending at column " + column, x.told(4), 0);
            x.undo();
            x.undo();
        }
        x.moveTo(0, 3);
        check.due("13: the mark on a right half", Check.cursor(x, 0), "0,3:0,3");
        x.resize(10, 4);
        check.due("13: from a right half to the next sign", Check.cursor(x, 0), "0,4:0,3");
        x = Check.sized(4, 4);
        Check.type(x, "abcDe");
        x.moveTo(0, 3);
        check.due("13: the mark in a gap", Check.cursor(x, 0), "0,3:0,3");
        x.resize(4, 4);
        check.due("13: from a gap to the sign behind it", Check.cursor(x, 0), "1,0:0,3");
    }

    private static void marksBehindTheLine() {
        PouredScreen x = new PouredScreen();
        Check.type(x, "abcdef");
        x.moveTo(0, 8);
        check.due("13: a mark behind the line", Check.cursor(x, 0), "0,8:0,8");
        x.resize(20, 4);
        check.due("13: as far behind it", Check.cursor(x, 0), "0,8:0,8");
        x.resize(5, 4);
        check.due("13: in the row of its last sign", Check.cursor(x, 0), "1,3:0,8");
        x.resize(7, 4);
        check.due("13: at most in the last column", Check.cursor(x, 0), "0,6:0,6");
        check.due("13: not pending there", x.told(4), 0);
        x = new PouredScreen();
        Check.type(x, "ABCx");
        x.moveTo(0, 9);
        check.due("13: the difference is of cells", Check.cursor(x, 0), "0,9:0,6");
        x.resize(8, 4);
        check.due("13: behind the last cell", Check.cursor(x, 0), "0,7:0,4");
    }

    private static void pending() {
        PouredScreen x = new PouredScreen();
        Check.type(x, "abcdefgh");
        check.due("13: not pending before", x.told(4), 0);
        x.resize(8, 4);
        check.due("13: pending if the line fills its row", Check.cursor(x, 0), "0,7:0,8p");
        x.resize(4, 4);
        check.due("13: in its second row, too", Check.cursor(x, 0), "1,3:0,8p");
        x.resize(5, 4);
        check.due("13: not pending if it does not", Check.cursor(x, 0), "1,3:0,8");
        x.resize(4, 4);
        x.feed(8);
        x.feed(9);
        check.due("13: the last column alone", Check.cursor(x, 0), "1,3:0,7");
        x.resize(4, 4);
        check.due("13: is not pending", x.told(4), 0);
        x = Check.sized(4, 3);
        x.moveTo(0, 3);
        x.resize(4, 3);
        check.due("13: a line without signs is never pending", x.told(4), 0);
        x = Check.sized(8, 3);
        Check.type(x, "abC");
        x.moveTo(0, 6);
        x.resize(4, 3);
        check.due("13: a mark farther behind is not pending", Check.cursor(x, 0), "0,3:0,3");
        x.undo();
        x.moveTo(0, 4);
        x.resize(4, 3);
        check.due("13: the mark behind a wide sign is", Check.cursor(x, 0), "0,3:0,3p");
        Check.type(x, "d");
        check.due("13: the next sign goes on", Check.marks(x), "|w--");
    }

    private static void offTheScreen() {
        PouredScreen x = Check.sized(10, 4);
        Check.type(x, "abcdefghijklmnopqrst");
        x.moveTo(0, 6);
        x.keep();
        x.moveTo(0, 2);
        check.due("13: resize(4, 3)", x.resize(4, 3), 5);
        check.due("13: a cursor in the history is at the beginning", Check.cursor(x, 0).substring(0, 3), "0,0");
        check.due("13: so is a kept one", Check.cursor(x, 1).substring(0, 3), "0,0");
        x.undo();
        x.moveTo(0, 9);
        x.resize(4, 3);
        check.due("13: one on the screen is not", Check.cursor(x, 0).substring(0, 3), "0,1");
        x = Check.sized(8, 4);
        Check.type(x, "abcd\ne\nf\ng");
        x.moveTo(0, 4);
        x.resize(4, 3);
        check.due("13: off the screen it is not pending", Check.cursor(x, 0), "0,0:1,0");
    }

    private static void keptCursorsArePoured() {
        PouredScreen x = new PouredScreen();
        Check.type(x, "abcdefgh");
        x.moveTo(0, 5);
        x.keep();
        x.moveTo(0, 8);
        x.keep();
        x.moveTo(2, 1);
        x.keep();
        x.resize(4, 4);
        check.due("13: a kept cursor on a sign", Check.cursor(x, 3), "1,1:0,5");
        check.due("13: a kept cursor behind the line", Check.cursor(x, 2), "1,3:0,7");
        check.due("13: a kept cursor in a blank line", Check.cursor(x, 1), "3,1:2,1");
        x.back();
        check.due("12: back() to where it was poured", Check.cursor(x, 0), "3,1:2,1");
        x.back();
        check.due("12: never pending", Check.cursor(x, 0), "1,3:0,7");
    }

    private static void trailingWrap() {
        PouredScreen x = Check.sized(4, 3);
        Check.type(x, "abcde");
        x.moveTo(1, 0);
        x.eraseLine(2);
        check.due("13: a wrap into a blank row", Check.marks(x), "|w--");
        check.due("13: its line with the cursor in it", x.line(0, 1), 2);
        x.resize(4, 3);
        check.due("13: that row is not poured", x.told(8), 1);
        check.due("13: the cursor is behind the signs", Check.cursor(x, 0), "0,3:0,4p");
        check.due("13: the wrap is gone", Check.marks(x), "|---");
        x.undo();
        x.moveTo(0, 0);
        check.due("13: the last row that counts ends a line", x.line(0, 1), 1);
        check.due("13: resize then", x.resize(5, 3), 1);
    }
}
