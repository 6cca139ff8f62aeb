/** Promises 2 to 4: feed, moveTo, setRegion. */
public final class WritingTest {
    private static final Check check = new Check("WritingTest");

    public static void main(String[] args) {
        wrongCodes();
        everySign();
        controlCodes();
        wrapping();
        wideSigns();
        blanks();
        scrolling();
        scrollingInRegion();
        belowTheRegion();
        halves();
        marksAreLost();
        marksOfRowsThatScroll();
        moving();
        regions();
        check.end();
    }

    private static void wrongCodes() {
        PouredScreen x = new PouredScreen();
        Check.type(x, "ab");
        long before = x.digest();
        int[] wrong = {Integer.MIN_VALUE, -65, -1, 0, 7, 11, 12, 14, 31, 127, 128, 255, 65 + 256, Integer.MAX_VALUE};
        for (int code : wrong) {
            check.due("2: feed(" + code + ")", x.feed(code), PouredScreen.BAD);
        }
        check.due("2: wrong codes change nothing", x.digest(), before);
    }

    private static void everySign() {
        for (int code = 32; code <= 126; code++) {
            PouredScreen x = new PouredScreen();
            int size = code >= 65 && code <= 90 ? 2 : 1;
            check.due("2: feed(" + code + ")", x.feed(code), 0);
            check.due("2: the column behind " + code, x.cursor(0, 1), size);
            check.due("2: the first cell of " + code, x.cell(0, 0), code);
            check.due("2: the cell behind the first of " + code, x.cell(0, 1), size == 2 ? code : 32);
            check.due("2: the third cell at " + code, x.cell(0, 2), 32);
            check.due("2: the signs of the row with " + code, x.row(0, 3), code == 32 ? 0 : 1);
            check.due("2: feed(" + code + ") is a change", x.told(10), 1);
        }
    }

    private static void controlCodes() {
        PouredScreen x = new PouredScreen();
        x.moveTo(1, 1);
        check.due("2: feed(8)", x.feed(8), 0);
        check.due("2: 8 goes left", Check.cursor(x, 0), "1,0:1,0");
        x.feed(8);
        check.due("2: 8 stops at column 0", Check.cursor(x, 0), "1,0:1,0");
        int[] columns = {4, 8, 9, 9};
        for (int column : columns) {
            x.feed(9);
            check.due("2: 9", x.cursor(0, 1), column);
        }
        x.moveTo(0, 3);
        x.feed(9);
        check.due("2: 9 from column 3", x.cursor(0, 1), 4);
        x.feed(13);
        check.due("2: 13", Check.cursor(x, 0), "0,0:0,0");
        x.moveTo(0, 7);
        check.due("2: feed(10)", x.feed(10), 0);
        check.due("2: 10 keeps the column", Check.cursor(x, 0), "1,7:1,7");
        check.due("2: control codes are changes", x.told(10), 8);
        for (int code : new int[] {8, 9, 10, 13}) {
            x = new PouredScreen();
            Check.type(x, "abcdefghij");
            check.due("2: pending", x.told(4), 1);
            x.feed(code);
            check.due("2: not pending behind " + code, x.told(4), 0);
            check.due("2: the column behind " + code, x.cursor(0, 1), code == 8 ? 8 : code == 13 ? 0 : 9);
        }
        x = Check.sized(4, 2);
        x.feed(9);
        check.due("2: 9 in 4 columns", x.cursor(0, 1), 3);
    }

    private static void wrapping() {
        PouredScreen x = new PouredScreen();
        Check.type(x, "abcdefghi");
        check.due("2: the last column, not pending", Check.cursor(x, 0), "0,9:0,9");
        Check.type(x, "j");
        check.due("2: pending in the last column", Check.cursor(x, 0), "0,9:0,10p");
        check.due("2: no wrap yet", Check.marks(x), "|----");
        Check.type(x, "k");
        check.due("2: it goes on", Check.cursor(x, 0), "1,1:0,11");
        check.due("2: a wrap", Check.marks(x), "|w---");
        check.due("2: both rows", Check.screen(x), "abcdefghij/k//");
        x.moveTo(0, 9);
        Check.type(x, "J");
        check.due("2: on through a row that is not blank", Check.screen(x), "abcdefghi/JJ//");
    }

    private static void wideSigns() {
        PouredScreen x = Check.sized(5, 3);
        Check.type(x, "ABC");
        check.due("2: a wide sign goes on", Check.screen(x), "AABB/CC/");
        check.due("2: it leaves a gap", Check.marks(x), "|g--");
        check.due("2: the cursor behind it", Check.cursor(x, 0), "1,2:0,3");
        Check.type(x, "xD");
        check.due("2: a wide sign fills the row", Check.cursor(x, 0), "1,4:0,5p");
        Check.type(x, "E");
        check.due("2: it goes on from pending, without a gap", Check.marks(x), "|gw-");
        check.due("2: three rows", Check.screen(x), "AABB/CCxDD/EE");
        x = new PouredScreen();
        Check.type(x, "abcdefghij");
        x.moveTo(0, 9);
        Check.type(x, "K");
        check.due("2: the cell of the gap is overwritten", Check.screen(x), "abcdefghi/KK//");
        x = new PouredScreen();
        Check.type(x, "abcdefghA");
        x.moveTo(0, 9);
        Check.type(x, "K");
        check.due("2: the blank of the gap cuts a wide sign", Check.screen(x), "abcdefgh/KK//");
    }

    private static void blanks() {
        PouredScreen x = new PouredScreen();
        Check.type(x, "aBc");
        x.moveTo(0, 1);
        check.due("2: feed(32)", x.feed(32), 0);
        check.due("2: a blank overwrites, and cuts", Check.screen(x), "a__c///");
        check.due("2: a blank takes one cell", x.cursor(0, 1), 2);
        x = new PouredScreen();
        Check.type(x, "          ");
        check.due("2: ten blanks", Check.cursor(x, 0), "0,9:0,10p");
        Check.type(x, " ");
        check.due("2: an eleventh goes on", Check.marks(x), "|w---");
        check.due("2: their signs", x.line(0, 0), 10);
    }

    private static void scrolling() {
        PouredScreen x = Check.sized(4, 2);
        Check.type(x, "a\nb");
        check.due("2: 13 in row 1", x.feed(13), 0);
        check.due("2: it scrolls", x.feed(10), 1);
        check.due("2: the rows move up", Check.screen(x), "b/");
        check.due("2: the cursor stays", Check.cursor(x, 0), "1,0:2,0");
        check.due("2: the history", Check.lines(x), "a/b/");
        for (int k = 2; k <= 30; k++) {
            x.feed('a' + k % 26);
            x.feed(13);
            check.due("2: line feed " + k, x.feed(10), Math.min(k, 24));
        }
        check.due("2: the history has 24 rows", x.told(5), 24);
        check.due("2: the oldest ones are dropped", x.sign(0, 0), 'a' + 6);
        check.due("2: the latest one is kept", x.sign(23, 0), 'a' + 29 % 26);
        check.due("2: the screen behind it", Check.screen(x), "e/");
    }

    private static void scrollingInRegion() {
        PouredScreen x = Check.sized(6, 5);
        Check.type(x, "a\nb\nc\nd\ne");
        x.setRegion(1, 3);
        x.moveTo(3, 2);
        check.due("2: a line feed in the last row of a region", x.feed(10), 0);
        check.due("2: its rows scroll", Check.screen(x), "a/c/d//e");
        check.due("2: the column stays", Check.cursor(x, 0), "3,2:3,2");
        x.moveTo(4, 0);
        x.feed(10);
        check.due("2: a line feed in the last row behind the region", Check.screen(x), "a/c/d//e");
        check.due("2: the cursor stays there", x.cursor(0, 0), 4);
        x.moveTo(0, 0);
        x.feed(10);
        check.due("2: a line feed ahead of the region", x.cursor(0, 0), 1);
        x.setRegion(0, 2);
        x.moveTo(2, 0);
        check.due("2: a region from row 0 on", x.feed(10), 1);
        check.due("2: its rows scroll, too", Check.screen(x), "c/d///e");
        check.due("2: its first row goes to the history", Check.lines(x), "a/c/d///e");
    }

    private static void belowTheRegion() {
        PouredScreen x = Check.sized(4, 3);
        x.setRegion(0, 1);
        x.moveTo(2, 0);
        Check.type(x, "abcdx");
        check.due("2: in the last row it goes on to its beginning", Check.screen(x), "//xbcd");
        check.due("2: none gets a wrap", Check.marks(x), "|---");
        check.due("2: the cursor behind it", Check.cursor(x, 0), "2,1:2,1");
        x.moveTo(2, 3);
        Check.type(x, "A");
        check.due("2: a wide sign, too", Check.screen(x), "//AAc");
        check.due("2: none gets a gap", Check.marks(x), "|---");
    }

    private static void halves() {
        PouredScreen x = new PouredScreen();
        Check.type(x, "ABCDE");
        x.moveTo(0, 1);
        Check.type(x, "x");
        check.due("2: a right half is overwritten", Check.screen(x), "_xBBCCDDEE///");
        x.moveTo(0, 2);
        Check.type(x, "y");
        check.due("2: a left half is overwritten", Check.screen(x), "_xy_CCDDEE///");
        x.moveTo(0, 5);
        Check.type(x, "F");
        check.due("2: two halves are overwritten", Check.screen(x), "_xy__FF_EE///");
        x.moveTo(0, 5);
        Check.type(x, "G");
        check.due("2: a whole one is overwritten", Check.screen(x), "_xy__GG_EE///");
        x = new PouredScreen();
        Check.type(x, "AA");
        x.moveTo(0, 1);
        Check.type(x, "A");
        check.due("2: like signs are told apart", Check.screen(x), "_AA///");
    }

    private static void marksAreLost() {
        PouredScreen x = Check.sized(4, 3);
        Check.type(x, "abcdefghij");
        check.due("2: two wraps", Check.marks(x), "|ww-");
        x.moveTo(0, 2);
        Check.type(x, "x");
        check.due("2: not by the last but one", Check.marks(x), "|ww-");
        Check.type(x, "y");
        check.due("2: by the last cell", Check.marks(x), "|-w-");
        x.moveTo(1, 3);
        Check.type(x, " ");
        check.due("2: by a blank, too", Check.marks(x), "|---");
        x = Check.sized(4, 3);
        Check.type(x, "abCdeFg");
        check.due("2: wide signs at the end", Check.marks(x), "|ww-");
        x.moveTo(0, 2);
        Check.type(x, "x");
        check.due("2: by a half that becomes blank", Check.marks(x), "|-w-");
        x.moveTo(1, 1);
        Check.type(x, "X");
        check.due("2: by one that a wide sign cuts", Check.screen(x), "abx/dXX/g");
        check.due("2: its row", Check.marks(x), "|---");
        x = Check.sized(4, 3);
        Check.type(x, "abcDe");
        check.due("2: a gap", Check.marks(x), "|g--");
        x.moveTo(0, 2);
        Check.type(x, "y");
        check.due("2: a gap stays", Check.marks(x), "|g--");
        Check.type(x, "z");
        check.due("2: a gap is lost", Check.marks(x), "|---");
        Check.type(x, "w");
        check.due("2: a wrap comes without it", Check.marks(x), "|w--");
    }

    private static void marksOfRowsThatScroll() {
        PouredScreen x = Check.sized(4, 3);
        Check.type(x, "abcdefghijklmnopq");
        check.due("2: wraps scroll with their rows", Check.marks(x), "ww|ww-");
        x.setRegion(1, 2);
        x.moveTo(2, 0);
        x.feed(10);
        check.due("2: the row ahead of the region loses its wrap", Check.marks(x), "ww|---");
        check.due("2: the lines", Check.lines(x), "abcdefghijkl/q/");
        x = Check.sized(4, 4);
        Check.type(x, "abcdefghijklmnop");
        x.setRegion(0, 2);
        x.moveTo(2, 0);
        x.feed(10);
        check.due("2: the last row of the region loses its wrap", Check.marks(x), "w|w---");
        check.due("2: blank is its new row", Check.screen(x), "efgh/ijkl//mnop");
        x = Check.sized(4, 3);
        Check.type(x, "abcDeF");
        check.due("2: two gaps", Check.marks(x), "|gg-");
        Check.type(x, "Gh\n\n");
        check.due("2: gaps scroll into the history", Check.marks(x), "ggw|---");
    }

    private static void moving() {
        PouredScreen x = new PouredScreen();
        check.due("3: moveTo(3, 9)", x.moveTo(3, 9), 0);
        check.due("3: moveTo(2, 4)", x.moveTo(2, 4), 39);
        check.due("3: moveTo(0, 0)", x.moveTo(0, 0), 24);
        check.due("3: the cursor", Check.cursor(x, 0), "0,0:0,0");
        int[][] wrong = {{-1, 0}, {4, 0}, {0, -1}, {0, 10}, {Integer.MIN_VALUE, 0}, {0, Integer.MAX_VALUE}, {-1, -1}};
        for (int[] place : wrong) {
            check.due("3: moveTo(" + place[0] + ", " + place[1] + ")", x.moveTo(place[0], place[1]), PouredScreen.BAD);
        }
        check.due("3: it is a change, if it is not refused", x.told(10), 3);
        Check.type(x, "abcdefghij");
        check.due("3: moveTo from pending", x.moveTo(0, 9), 9);
        check.due("3: not pending any more", x.told(4), 0);
        Check.type(x, "k");
        check.due("3: the sign comes there", Check.screen(x), "abcdefghik///");
        x = Check.sized(4, 2);
        x.moveTo(1, 3);
        check.due("3: W is the one at present", x.moveTo(0, 0), 7);
        check.due("3: columns at present", x.moveTo(0, 4), PouredScreen.BAD);
        check.due("3: rows at present", x.moveTo(2, 0), PouredScreen.BAD);
    }

    private static void regions() {
        PouredScreen x = new PouredScreen();
        x.moveTo(2, 5);
        check.due("4: setRegion(1, 2)", x.setRegion(1, 2), 2);
        check.due("4: its first row", x.told(2), 1);
        check.due("4: its last row", x.told(3), 2);
        check.due("4: the cursor goes to the beginning", Check.cursor(x, 0), "0,0:0,0");
        int[][] wrong = {{-1, 2}, {0, 4}, {1, 1}, {3, 3}, {2, 1}, {4, 5}, {-2, -1}, {Integer.MIN_VALUE, Integer.MAX_VALUE}};
        x.moveTo(1, 1);
        long before = x.digest();
        for (int[] rows : wrong) {
            check.due("4: setRegion(" + rows[0] + ", " + rows[1] + ")", x.setRegion(rows[0], rows[1]), PouredScreen.BAD);
        }
        check.due("4: wrong ones change nothing", x.digest(), before);
        check.due("4: setRegion(0, 3)", x.setRegion(0, 3), 4);
        check.due("4: setRegion(2, 3)", x.setRegion(2, 3), 2);
        check.due("4: it is a change", x.told(10), 5);
        Check.type(x, "abcdefghij");
        x.setRegion(2, 3);
        check.due("4: not pending any more", x.told(4), 0);
        x.resize(10, 4);
        check.due("4: the first row behind a resize", x.told(2), 0);
        check.due("4: the last row behind a resize", x.told(3), 3);
    }
}
