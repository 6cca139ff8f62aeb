/** Promises 22 and 23: undo, digest. */
public final class UndoTest {
    private static final Check check = new Check("UndoTest");
    private static final int CHANGES = 12;

    public static void main(String[] args) {
        withoutAny();
        eachChange();
        eightStates();
        refusedCalls();
        pending();
        changesAfterUndo();
        digestOfANewObject();
        digestOfAFullOne();
        digestSeesEverything();
        check.end();
    }

    private static void withoutAny() {
        PouredScreen x = new PouredScreen();
        long before = x.digest();
        check.due("22: undo() without any", x.undo(), PouredScreen.STATE);
        check.due("22: it changes nothing", x.digest(), before);
    }

    private static PouredScreen start() {
        PouredScreen x = Check.sized(6, 3);
        Check.type(x, "abcdefgHi\njkLmnop\nqr");
        x.moveTo(1, 2);
        x.keep();
        x.setRegion(1, 2);
        x.moveTo(1, 1);
        return x;
    }

    private static int change(PouredScreen x, int which) {
        switch (which) {
            case 0: return x.feed('s');
            case 1: return x.feed(10);
            case 2: return x.moveTo(2, 2);
            case 3: return x.setRegion(0, 1);
            case 4: return x.eraseLine(2);
            case 5: return x.eraseScreen(2);
            case 6: return x.insertRows(1);
            case 7: return x.deleteRows(1);
            case 8: return x.insertCells(2);
            case 9: return x.deleteCells(2);
            case 10: return x.keep();
            case 11: return x.back();
            default: return x.resize(5, 4);
        }
    }

    private static void eachChange() {
        for (int which = 0; which <= CHANGES; which++) {
            PouredScreen x = start();
            String before = Check.all(x);
            check.due("22: change " + which + " is not refused", change(x, which) >= 0 ? 1 : 0, 1);
            check.due("22: change " + which + " does something", Check.all(x).equals(before) ? 1 : 0, 0);
            check.due("22: undo() of change " + which, x.undo(), 7);
            check.due("22: the state behind it", Check.all(x), before);
        }
    }

    private static void eightStates() {
        PouredScreen x = new PouredScreen();
        String[] states = new String[20];
        for (int k = 0; k < 20; k++) {
            states[k] = Check.all(x);
            x.feed('a' + k);
            check.due("22: states behind change " + k, x.told(10), Math.min(8, k + 1));
        }
        for (int k = 19; k >= 12; k--) {
            check.due("22: undo()", x.undo(), k - 12);
            check.due("22: the state ahead of change " + k, Check.all(x), states[k]);
        }
        check.due("22: a ninth undo()", x.undo(), PouredScreen.STATE);
        check.due("22: it changes nothing", Check.all(x), states[12]);
    }

    private static void refusedCalls() {
        PouredScreen x = new PouredScreen();
        x.feed(0);
        x.moveTo(4, 0);
        x.setRegion(1, 1);
        x.eraseLine(3);
        x.eraseScreen(3);
        x.insertRows(9);
        x.deleteRows(0);
        x.insertCells(21);
        x.deleteCells(0);
        x.back();
        x.resize(3, 2);
        check.due("22: refused calls record nothing", x.told(10), 0);
        x.setRegion(1, 2);
        x.insertRows(1);
        x.deleteRows(1);
        check.due("22: nor do those refused for the state", x.told(10), 1);
        x.keep();
        x.keep();
        x.keep();
        x.keep();
        check.due("22: nor does a keep() too many", x.told(10), 4);
    }

    private static void pending() {
        PouredScreen x = new PouredScreen();
        Check.type(x, "abcdefghij");
        x.feed(13);
        x.undo();
        check.due("22: pending comes back", Check.cursor(x, 0), "0,9:0,10p");
        Check.type(x, "k");
        check.due("22: it goes on then", Check.screen(x), "abcdefghij/k//");
    }

    private static void changesAfterUndo() {
        PouredScreen x = new PouredScreen();
        Check.type(x, "abc");
        x.undo();
        Check.type(x, "x");
        check.due("22: a change behind undo()", Check.screen(x), "abx///");
        check.due("22: the states then", x.told(10), 3);
        x.undo();
        x.undo();
        check.due("22: back beyond the first undo()", Check.screen(x), "a///");
        x = Check.sized(4, 2);
        Check.type(x, "ab\ncd\nef");
        x.resize(20, 8);
        x.undo();
        x.feed(10);
        x.feed(10);
        check.due("22: rows that scroll behind undo() are blank", Check.screen(x), "/");
        check.due("22: the history behind it", Check.lines(x), "ab/cd/ef//");
    }

    private static void digestOfANewObject() {
        long h = 43174;
        int[] told = {10, 4, 0, 3, 0, 0, 0, 1, 1, 0, 0};
        for (int v : told) {
            h = 31 * h + v;
        }
        for (int k = 0; k < 16; k++) {
            h = 31 * h;
        }
        for (int k = 0; k < 40; k++) {
            h = 31 * h + 32;
        }
        int[] lineAndCursor = {0, 1, 0, 0, 0, 0, 0};
        for (int v : lineAndCursor) {
            h = 31 * h + v;
        }
        for (int k = 0; k < 17; k++) {
            h = 31 * h + 1;
        }
        check.due("23: digest() of a new object", new PouredScreen().digest(), h);
    }

    private static void digestOfAFullOne() {
        PouredScreen x = start();
        x.feed('s');
        check.due("23: digest()", x.digest(), computed(x));
        x.keep();
        Check.type(x, "tuv W\n\nXy");
        check.due("23: digest() farther on", x.digest(), computed(x));
        x.resize(4, 2);
        check.due("23: digest() with a history", x.digest(), computed(x));
        check.due("23: digest() changes nothing", x.digest(), computed(x));
    }

    /** The hash, from what the other methods tell. */
    private static long computed(PouredScreen x) {
        long h = 43174;
        for (int what = 0; what <= 10; what++) {
            h = 31 * h + x.told(what);
        }
        for (int r = -x.told(5); r < x.told(1); r++) {
            for (int what = 0; what <= 3; what++) {
                h = 31 * h + x.row(r, what);
            }
        }
        for (int cell = 0; cell < x.told(0) * x.told(1); cell++) {
            h = 31 * h + x.cell(cell / x.told(0), cell % x.told(0));
        }
        for (int line = 0; line < x.told(7); line++) {
            for (int what = 0; what <= 2; what++) {
                h = 31 * h + x.line(line, what);
            }
            for (int k = 0; k < x.line(line, 0); k++) {
                h = 31 * h + x.sign(line, k);
            }
        }
        for (int which = 0; which <= x.told(6); which++) {
            for (int what = 0; what <= 3; what++) {
                h = 31 * h + x.cursor(which, what);
            }
        }
        for (int columns = 4; columns <= 20; columns++) {
            h = 31 * h + x.ifWidth(columns);
        }
        return h;
    }

    private static void digestSeesEverything() {
        PouredScreen x = start();
        long before = x.digest();
        for (int which = 0; which <= CHANGES; which++) {
            change(x, which);
            check.due("23: digest() sees change " + which, x.digest() == before ? 1 : 0, 0);
            x.undo();
        }
    }
}
