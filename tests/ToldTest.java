/** Promises 14 to 21: cell, row, line, sign, cursor, ifWidth, widthFor, told. */
public final class ToldTest {
    private static final Check check = new Check("ToldTest");

    public static void main(String[] args) {
        cells();
        rows();
        lines();
        signs();
        cursors();
        marks();
        widths();
        widthsFor();
        numbers();
        nothingChanges();
        check.end();
    }

    /** 5 columns and 3 rows; two rows of history, a line over three rows, and a blank one behind it. */
    private static PouredScreen poured() {
        PouredScreen x = Check.sized(5, 3);
        Check.type(x, "ab\ncdefGh i\n\n");
        return x;
    }

    private static void cells() {
        PouredScreen x = new PouredScreen();
        Check.type(x, "aB");
        check.due("14: cell(0, 0)", x.cell(0, 0), 'a');
        check.due("14: cell(0, 1), a left half", x.cell(0, 1), 'B');
        check.due("14: cell(0, 2), a right half", x.cell(0, 2), 'B');
        check.due("14: cell(0, 3), blank", x.cell(0, 3), 32);
        check.due("14: cell(3, 9), the last one", x.cell(3, 9), 32);
        int[][] wrong = {{-1, 0}, {4, 0}, {0, -1}, {0, 10}, {Integer.MIN_VALUE, 0}, {0, Integer.MAX_VALUE}};
        for (int[] place : wrong) {
            check.due("14: cell(" + place[0] + ", " + place[1] + ")", x.cell(place[0], place[1]), PouredScreen.BAD);
        }
        x.resize(20, 8);
        check.due("14: cell(7, 19) of 20 columns and 8 rows", x.cell(7, 19), 32);
        x = poured();
        check.due("14: the screen, not the history", x.cell(0, 0), 'G');
    }

    private static void rows() {
        PouredScreen x = poured();
        check.due("15: its history", x.told(5), 2);
        int[][] told = {{-2, 0, 0, 2, 2}, {-1, 1, 1, 4, 4}, {0, 0, 0, 5, 3}, {1, 0, 0, 0, 0}, {2, 0, 0, 0, 0}};
        for (int[] row : told) {
            for (int what = 0; what <= 3; what++) {
                check.due("15: row(" + row[0] + ", " + what + ")", x.row(row[0], what), row[what + 1]);
            }
        }
        check.due("15: row(-3, 0)", x.row(-3, 0), PouredScreen.NONE);
        check.due("15: row(-24, 3)", x.row(-24, 3), PouredScreen.NONE);
        check.due("15: row(-25, 0)", x.row(-25, 0), PouredScreen.BAD);
        check.due("15: row(3, 0)", x.row(3, 0), PouredScreen.BAD);
        check.due("15: row(-3, 4), a wrong number is told first", x.row(-3, 4), PouredScreen.BAD);
        check.due("15: row(0, -1)", x.row(0, -1), PouredScreen.BAD);
        check.due("15: row(0, 4)", x.row(0, 4), PouredScreen.BAD);
        check.due("15: row(MIN, 0)", x.row(Integer.MIN_VALUE, 0), PouredScreen.BAD);
        check.due("15: row(MAX, 0)", x.row(Integer.MAX_VALUE, 0), PouredScreen.BAD);
        x = new PouredScreen();
        Check.type(x, " a B  ");
        check.due("15: cells up to the last one", x.row(0, 2), 5);
        check.due("15: signs that are not blank", x.row(0, 3), 2);
    }

    private static void lines() {
        PouredScreen x = poured();
        check.due("16: the lines", Check.lines(x), "ab/cdefGh_i//");
        check.due("16: their number", x.told(7), 4);
        int[][] told = {{0, 2, 1, 1}, {1, 8, 2, 1}, {2, 0, 1, 0}, {3, 0, 1, 0}};
        for (int[] line : told) {
            for (int what = 0; what <= 2; what++) {
                check.due("16: line(" + line[0] + ", " + what + ")", x.line(line[0], what), line[what + 1]);
            }
        }
        check.due("16: line(4, 0)", x.line(4, 0), PouredScreen.NONE);
        check.due("16: line(MAX, 2)", x.line(Integer.MAX_VALUE, 2), PouredScreen.NONE);
        check.due("16: line(4, 3), a wrong number is told first", x.line(4, 3), PouredScreen.BAD);
        check.due("16: line(0, -1)", x.line(0, -1), PouredScreen.BAD);
        check.due("16: line(-1, 0)", x.line(-1, 0), PouredScreen.BAD);
        check.due("16: line(MIN, 0)", x.line(Integer.MIN_VALUE, 0), PouredScreen.BAD);
        x = new PouredScreen();
        Check.type(x, "\n\na");
        x.moveTo(0, 0);
        check.due("16: blank rows ahead of one that is not count", x.told(7), 3);
        x.moveTo(2, 0);
        x.eraseLine(2);
        x.moveTo(0, 0);
        check.due("16: blank rows behind do not", x.told(7), 1);
        x.moveTo(1, 5);
        check.due("16: but with the cursor", x.told(7), 2);
        x.moveTo(3, 5);
        x.keep();
        x.moveTo(1, 5);
        check.due("16: and with a kept one", x.told(7), 4);
        x = Check.sized(4, 3);
        Check.type(x, "ab  cd   ");
        check.due("16: blanks of a row that is not the last", x.line(0, 0), 8);
        check.due("16: its rows", x.line(0, 1), 3);
        x.moveTo(2, 0);
        x.keep();
        x.moveTo(1, 0);
        x.insertRows(1);
        check.due("16: the line was cut", Check.lines(x), "ab//cd");
    }

    private static void signs() {
        PouredScreen x = poured();
        String line = "cdefGh i";
        for (int k = 0; k < 8; k++) {
            check.due("17: sign(1, " + k + ")", x.sign(1, k), line.charAt(k));
        }
        check.due("17: sign(1, 8)", x.sign(1, 8), PouredScreen.NONE);
        check.due("17: sign(1, MAX)", x.sign(1, Integer.MAX_VALUE), PouredScreen.NONE);
        check.due("17: sign(2, 0)", x.sign(2, 0), PouredScreen.NONE);
        check.due("17: sign(4, 0)", x.sign(4, 0), PouredScreen.NONE);
        check.due("17: sign(MAX, 0)", x.sign(Integer.MAX_VALUE, 0), PouredScreen.NONE);
        check.due("17: sign(-1, 0)", x.sign(-1, 0), PouredScreen.BAD);
        check.due("17: sign(0, -1)", x.sign(0, -1), PouredScreen.BAD);
        check.due("17: sign(4, -1)", x.sign(4, -1), PouredScreen.BAD);
        check.due("17: sign(MIN, MIN)", x.sign(Integer.MIN_VALUE, Integer.MIN_VALUE), PouredScreen.BAD);
    }

    private static void cursors() {
        PouredScreen x = new PouredScreen();
        Check.type(x, "ab\ncd");
        x.keep();
        x.moveTo(0, 7);
        check.due("18: cursor(0, 0)", x.cursor(0, 0), 0);
        check.due("18: cursor(0, 1)", x.cursor(0, 1), 7);
        check.due("18: cursor(0, 2)", x.cursor(0, 2), 0);
        check.due("18: cursor(0, 3)", x.cursor(0, 3), 7);
        check.due("18: cursor(1, 0)", x.cursor(1, 0), 1);
        check.due("18: cursor(1, 1)", x.cursor(1, 1), 2);
        check.due("18: cursor(1, 2)", x.cursor(1, 2), 1);
        check.due("18: cursor(1, 3)", x.cursor(1, 3), 2);
        check.due("18: cursor(2, 0)", x.cursor(2, 0), PouredScreen.NONE);
        check.due("18: cursor(3, 3)", x.cursor(3, 3), PouredScreen.NONE);
        check.due("18: cursor(4, 0)", x.cursor(4, 0), PouredScreen.BAD);
        check.due("18: cursor(-1, 0)", x.cursor(-1, 0), PouredScreen.BAD);
        check.due("18: cursor(3, 4), a wrong number is told first", x.cursor(3, 4), PouredScreen.BAD);
        check.due("18: cursor(0, -1)", x.cursor(0, -1), PouredScreen.BAD);
        check.due("18: cursor(MIN, 0)", x.cursor(Integer.MIN_VALUE, 0), PouredScreen.BAD);
        x.keep();
        x.moveTo(3, 3);
        x.keep();
        check.due("18: the latest first", Check.cursor(x, 1), "3,3:3,3");
        check.due("18: the second", Check.cursor(x, 2), "0,7:0,7");
        check.due("18: the oldest last", Check.cursor(x, 3), "1,2:1,2");
    }

    private static void marks() {
        PouredScreen x = poured();
        check.due("18: the line of the cursor counts those of the history", Check.cursor(x, 0), "2,0:3,0");
        x.moveTo(0, 1);
        check.due("18: signs of rows before, and to the left", Check.cursor(x, 0), "0,1:1,5");
        x.moveTo(0, 4);
        check.due("18: a wide sign once", Check.cursor(x, 0), "0,4:1,7");
        x = Check.sized(5, 3);
        Check.type(x, "aBcd");
        check.due("18: pending counts as in column W", Check.cursor(x, 0), "0,4:0,4p");
        Check.type(x, "e");
        x.moveTo(0, 4);
        check.due("18: in the last cell of a row that goes on", Check.cursor(x, 0), "0,4:0,3");
        x.moveTo(1, 3);
        check.due("18: plus what is behind the cells of the last row", Check.cursor(x, 0), "1,3:0,7");
        x = Check.sized(5, 3);
        Check.type(x, "a    b");
        x.moveTo(0, 4);
        check.due("18: blanks of a row that goes on are signs", Check.cursor(x, 0), "0,4:0,4");
    }

    private static void widths() {
        PouredScreen x = poured();
        int[] rows = {6, 5, 5, 5, 5, 4};
        for (int columns = 4; columns <= 9; columns++) {
            check.due("19: ifWidth(" + columns + ")", x.ifWidth(columns), rows[columns - 4]);
        }
        check.due("19: ifWidth(20)", x.ifWidth(20), 4);
        for (int columns : new int[] {Integer.MIN_VALUE, -4, 0, 3, 21, Integer.MAX_VALUE}) {
            check.due("19: ifWidth(" + columns + ")", x.ifWidth(columns), PouredScreen.BAD);
        }
        for (int columns = 4; columns <= 20; columns++) {
            int would = x.ifWidth(columns);
            check.due("19: resize(" + columns + ", 3) as told", x.resize(columns, 3), would);
            x.undo();
        }
        x = Check.sized(20, 2);
        Check.type(x, "aBBBBBB");
        check.due("19: wide signs, 4", x.ifWidth(4), 4);
        check.due("19: wide signs, 5", x.ifWidth(5), 3);
        check.due("19: wide signs, 6", x.ifWidth(6), 3);
        check.due("19: wide signs, 7", x.ifWidth(7), 2);
        check.due("19: wide signs, 12", x.ifWidth(12), 2);
        check.due("19: wide signs, 13", x.ifWidth(13), 1);
    }

    private static void widthsFor() {
        PouredScreen x = poured();
        check.due("20: widthFor(3)", x.widthFor(3), PouredScreen.NONE);
        check.due("20: widthFor(4)", x.widthFor(4), 9);
        check.due("20: widthFor(5)", x.widthFor(5), 5);
        check.due("20: widthFor(6)", x.widthFor(6), 4);
        check.due("20: widthFor(40)", x.widthFor(40), 4);
        for (int rows : new int[] {Integer.MIN_VALUE, -1, 0, 41, Integer.MAX_VALUE}) {
            check.due("20: widthFor(" + rows + ")", x.widthFor(rows), PouredScreen.BAD);
        }
        check.due("20: widthFor(1) of a blank screen", new PouredScreen().widthFor(1), 4);
        x = Check.sized(20, 2);
        for (int k = 0; k < 20; k++) {
            Check.type(x, "x");
        }
        check.due("20: widthFor(1) of a full row", x.widthFor(1), 20);
        Check.type(x, "y");
        check.due("20: widthFor(1) of more", x.widthFor(1), PouredScreen.NONE);
        check.due("20: widthFor(2) of more", x.widthFor(2), 11);
        x = Check.sized(6, 8);
        for (int k = 0; k < 40; k++) {
            Check.type(x, "\n");
        }
        check.due("20: widthFor(31) of 32 rows", x.widthFor(31), PouredScreen.NONE);
        check.due("20: widthFor(32) of 32 rows", x.widthFor(32), 4);
    }

    private static void numbers() {
        PouredScreen x = poured();
        int[] told = {5, 3, 0, 2, 0, 2, 0, 4, 5, 4, 8};
        for (int what = 0; what <= 10; what++) {
            check.due("21: told(" + what + ")", x.told(what), told[what]);
        }
        x.setRegion(1, 2);
        check.due("21: the first row of the region", x.told(2), 1);
        check.due("21: the last row of the region", x.told(3), 2);
        x.keep();
        check.due("21: the kept cursors", x.told(6), 1);
        Check.type(x, "vwxyz");
        check.due("21: pending", x.told(4), 1);
        check.due("21: cells that are not blank", x.told(9), 5);
        check.due("21: lines", x.told(7), 2);
        check.due("21: rows that count", x.told(8), 3);
        for (int what : new int[] {Integer.MIN_VALUE, -1, 11, Integer.MAX_VALUE}) {
            check.due("21: told(" + what + ")", x.told(what), PouredScreen.BAD);
        }
        x = new PouredScreen();
        Check.type(x, "aB");
        check.due("21: both cells of a wide sign", x.told(9), 3);
        check.due("21: remembered states", x.told(10), 2);
    }

    private static void nothingChanges() {
        PouredScreen x = poured();
        x.keep();
        Check.type(x, "qrstu");
        long before = x.digest();
        x.cell(0, 0);
        x.row(-1, 2);
        x.line(1, 0);
        x.sign(1, 1);
        x.cursor(1, 3);
        x.told(7);
        for (int columns = 4; columns <= 20; columns++) {
            x.ifWidth(columns);
        }
        x.widthFor(4);
        check.due("14 to 21: telling changes nothing", x.digest(), before);
    }
}
