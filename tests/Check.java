/** What the tests share: answers that are due, and a screen shown as text. */
final class Check {
    private final String test;
    private int wrong = 0;

    Check(String test) {
        this.test = test;
    }

    void due(String what, long got, long want) {
        if (got != want) {
            wrong++;
            System.out.println(test + ": " + what + " answered " + got + ", due is " + want);
        }
    }

    void due(String what, String got, String want) {
        if (!got.equals(want)) {
            wrong++;
            System.out.println(test + ": " + what + " shows " + got + ", due is " + want);
        }
    }

    /** Ends the program, with exit code 1 if an answer was wrong. */
    void end() {
        System.out.println(wrong == 0 ? test + ": all answers are as due" : test + ": " + wrong + " answers are wrong");
        if (wrong != 0) {
            System.exit(1);
        }
    }

    /** Feeds the characters; \n goes to the beginning of the next row. */
    static void type(PouredScreen x, String text) {
        for (int i = 0; i < text.length(); i++) {
            if (text.charAt(i) == '\n') {
                x.feed(13);
                x.feed(10);
            } else {
                x.feed(text.charAt(i));
            }
        }
    }

    /** A new object of this size, on which nothing is remembered but the resizing. */
    static PouredScreen sized(int columns, int rows) {
        PouredScreen x = new PouredScreen();
        x.resize(columns, rows);
        return x;
    }

    /** The rows of the screen, each up to its last cell that is not blank, with _ for a blank cell. */
    static String screen(PouredScreen x) {
        StringBuilder shown = new StringBuilder();
        for (int r = 0; r < x.told(1); r++) {
            shown.append(r == 0 ? "" : "/");
            for (int c = 0; c < x.row(r, 2); c++) {
                int sign = x.cell(r, c);
                shown.append(sign == 32 ? '_' : (char) sign);
            }
        }
        return shown.toString();
    }

    /** The marks of all rows, those of the history ahead of a |: w for a wrap, g for wrap and gap, ? for a gap alone. */
    static String marks(PouredScreen x) {
        StringBuilder shown = new StringBuilder();
        for (int r = -x.told(5); r < x.told(1); r++) {
            shown.append(r == 0 ? "|" : "");
            shown.append(x.row(r, 0) == 1 ? (x.row(r, 1) == 1 ? 'g' : 'w') : x.row(r, 1) == 1 ? '?' : '-');
        }
        return shown.toString();
    }

    /** The signs of all lines, with _ for a blank. */
    static String lines(PouredScreen x) {
        StringBuilder shown = new StringBuilder();
        for (int line = 0; line < x.told(7); line++) {
            shown.append(line == 0 ? "" : "/");
            for (int k = 0; k < x.line(line, 0); k++) {
                int sign = x.sign(line, k);
                shown.append(sign == 32 ? '_' : (char) sign);
            }
        }
        return shown.toString();
    }

    /** Row and column of a cursor, and its line and mark; p behind it if it is pending. */
    static String cursor(PouredScreen x, int which) {
        String shown = x.cursor(which, 0) + "," + x.cursor(which, 1) + ":" + x.cursor(which, 2) + "," + x.cursor(which, 3);
        return which == 0 && x.told(4) == 1 ? shown + "p" : shown;
    }
}
