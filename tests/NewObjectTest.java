/** Promise 1. */
public final class NewObjectTest {
    private static final Check check = new Check("NewObjectTest");

    public static void main(String[] args) {
        PouredScreen x = new PouredScreen();
        int[] told = {10, 4, 0, 3, 0, 0, 0, 1, 1, 0, 0};
        for (int what = 0; what <= 10; what++) {
            check.due("1: told(" + what + ")", x.told(what), told[what]);
        }
        for (int r = 0; r < 4; r++) {
            for (int what = 0; what <= 3; what++) {
                check.due("1: row(" + r + ", " + what + ")", x.row(r, what), 0);
            }
            for (int c = 0; c < 10; c++) {
                check.due("1: cell(" + r + ", " + c + ")", x.cell(r, c), 32);
            }
        }
        check.due("1: cell(4, 0)", x.cell(4, 0), PouredScreen.BAD);
        check.due("1: cell(0, 10)", x.cell(0, 10), PouredScreen.BAD);
        check.due("1: row(-1, 0)", x.row(-1, 0), PouredScreen.NONE);
        check.due("1: the cursor", Check.cursor(x, 0), "0,0:0,0");
        check.due("1: cursor(1, 0)", x.cursor(1, 0), PouredScreen.NONE);
        check.due("1: undo()", x.undo(), PouredScreen.STATE);
        check.due("1: back()", x.back(), PouredScreen.STATE);
        constants();
        objectsAreApart();
        check.end();
    }

    private static void constants() {
        check.due("1: BAD", PouredScreen.BAD, -1);
        check.due("1: STATE", PouredScreen.STATE, -2);
        check.due("1: FULL", PouredScreen.FULL, -3);
        check.due("1: NONE", PouredScreen.NONE, -9);
    }

    private static void objectsAreApart() {
        PouredScreen x = new PouredScreen();
        PouredScreen y = new PouredScreen();
        Check.type(x, "abc");
        check.due("1: another object is blank", y.told(9), 0);
        check.due("1: another object remembers nothing", y.told(10), 0);
        check.due("1: this one is not", x.told(9), 3);
    }
}
