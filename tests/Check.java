import java.io.IOException;
import java.nio.file.Files;
import java.nio.file.Path;
import java.util.function.Supplier;
import java.util.function.ToLongFunction;

/** What the tests share: answers that are due, sentences of the document, and a screen shown as text. */
final class Check {
    private static final Path DOCUMENT = Path.of("../shared/DOC.md");
    private static final String[] PARTS = {"RETURN VALUES", "SCREEN", "FEEDING", "LINES", "POURING", "CHANGES"};
    private static final int MOST_STATES = 8;

    private final String test;
    private final String document = document();
    private String where;
    private int wrong = 0;

    Check(String test) {
        this.test = test;
        this.where = test;
    }

    void due(String what, long got, long want) {
        if (got != want) {
            wrong++;
            System.out.println(where + ": " + what + " answered " + got + ", due is " + want);
        }
    }

    void due(String what, String got, String want) {
        if (!got.equals(want)) {
            wrong++;
            System.out.println(where + ": " + what + " shows " + got + ", due is " + want);
        }
    }

    /** Ends the program, with exit code 1 if an answer was wrong. */
    void end() {
        System.out.println(wrong == 0 ? test + ": all answers are as due" : test + ": " + wrong + " answers are wrong");
        if (wrong != 0) {
            System.exit(1);
        }
    }

    // ---- sentences of the document

    /**
     * What is looked at from here on: a sentence of the document, in its own words. The place is
     * "promise 7", or a part of "Description" in capitals with the promises that it binds.
     */
    void sentence(String place, String words) {
        where = test + ", " + place + ", \"" + words + "\"";
        if (!document.isEmpty() && !part(place).contains(words)) {
            wrong++;
            System.out.println(where + ": the document does not say so there");
        }
    }

    /** The document on one line, or nothing where it is not at hand. */
    private static String document() {
        try {
            return Files.exists(DOCUMENT) ? Files.readString(DOCUMENT).replaceAll("\\s+", " ") : "";
        } catch (IOException e) {
            return "";
        }
    }

    /** What the document says in a place, so that a sentence is not found in another one. */
    private String part(String place) {
        String name = place.replaceAll("[^A-Z ].*", "").trim();
        String begin = name.isEmpty() ? "## P" + place.substring(1) + ":" : name + ". ";
        String end = " ## ";
        for (int k = 0; k + 1 < PARTS.length; k++) {
            end = PARTS[k].equals(name) ? PARTS[k + 1] + ". " : end;
        }
        int from = name.equals("WHAT IT IS") ? document.indexOf("## What it is") : document.indexOf(begin);
        int to = document.indexOf(end, from + 1);
        return from < 0 ? "" : document.substring(from, to < 0 ? document.length() : to);
    }

    // ---- refused calls

    /** The call answers so, and behind it the object and all that it remembers are as without it. */
    void refused(String name, Supplier<PouredScreen> made, ToLongFunction<PouredScreen> call, long answer) {
        PouredScreen x = made.get();
        PouredScreen y = made.get();
        due(name, call.applyAsLong(x), answer);
        due("all behind " + name, all(x), all(y));
        for (int k = 0; k <= MOST_STATES; k++) {
            due("digest() and " + k + " undo() behind " + name, x.digest(), y.digest());
            due("undo() " + k + " behind " + name, x.undo(), y.undo());
        }
    }

    // ---- objects

    /** Feeds the characters; \n goes to the beginning of the next row. */
    static void type(PouredScreen x, String text) {
        for (int i = 0; i < text.length(); i++) {
            if (text.charAt(i) == '\n') {
                x.feed(13);
                x.feed(10);
            } else {
                x.feed(text.charAt(i));
            }
        }
    }

    /** A new object of this size, on which nothing is remembered but the resizing. */
    static PouredScreen sized(int columns, int rows) {
        PouredScreen x = new PouredScreen();
        x.resize(columns, rows);
        return x;
    }

    /** One of this size with this text on it. */
    static PouredScreen typed(int columns, int rows, String text) {
        PouredScreen x = sized(columns, rows);
        type(x, text);
        return x;
    }

    /**
     * One line of 32 full rows, the most that there can be: in each row a sign in the last cell, and
     * one that goes on. The last sign is a !, and the cursor is pending behind it.
     */
    static PouredScreen fullestLine() {
        PouredScreen x = sized(20, 8);
        for (int k = 0; k < 31; k++) {
            x.moveTo(Math.min(7, k), 19);
            type(x, "yz");
        }
        x.moveTo(7, 19);
        x.feed('!');
        return x;
    }

    // ---- texts

    /** The rows of the screen, each up to its last cell that is not blank, with _ for a blank cell. */
    static String screen(PouredScreen x) {
        StringBuilder shown = new StringBuilder();
        for (int r = 0; r < x.told(1); r++) {
            shown.append(r == 0 ? "" : "/");
            for (int c = 0; c < x.row(r, 2); c++) {
                int sign = x.cell(r, c);
                shown.append(sign == 32 ? '_' : (char) sign);
            }
        }
        return shown.toString();
    }

    /** The marks of all rows, those of the history ahead of a |: w for a wrap, g for wrap and gap, ? for a gap alone. */
    static String marks(PouredScreen x) {
        StringBuilder shown = new StringBuilder();
        for (int r = -x.told(5); r < x.told(1); r++) {
            shown.append(r == 0 ? "|" : "");
            shown.append(x.row(r, 0) == 1 ? (x.row(r, 1) == 1 ? 'g' : 'w') : x.row(r, 1) == 1 ? '?' : '-');
        }
        return shown.toString();
    }

    /** The signs of all lines, with _ for a blank. */
    static String lines(PouredScreen x) {
        StringBuilder shown = new StringBuilder();
        for (int line = 0; line < x.told(7); line++) {
            shown.append(line == 0 ? "" : "/");
            for (int k = 0; k < x.line(line, 0); k++) {
                int sign = x.sign(line, k);
                shown.append(sign == 32 ? '_' : (char) sign);
            }
        }
        return shown.toString();
    }

    /** Row and column of a cursor; p behind it if it is pending. */
    static String place(PouredScreen x, int which) {
        String shown = x.cursor(which, 0) + "," + x.cursor(which, 1);
        return which == 0 && x.told(4) == 1 ? shown + "p" : shown;
    }

    /** Row and column of a cursor, and its line and mark; p behind it if it is pending. */
    static String cursor(PouredScreen x, int which) {
        String shown = x.cursor(which, 0) + "," + x.cursor(which, 1) + ":" + x.cursor(which, 2) + "," + x.cursor(which, 3);
        return which == 0 && x.told(4) == 1 ? shown + "p" : shown;
    }

    /** All that is told, but the number of remembered states. */
    static String all(PouredScreen x) {
        StringBuilder shown = new StringBuilder();
        for (int what = 0; what <= 9; what++) {
            shown.append(x.told(what)).append(' ');
        }
        shown.append(screen(x)).append(' ').append(marks(x)).append(' ').append(lines(x));
        for (int which = 0; which <= x.told(6); which++) {
            shown.append(' ').append(cursor(x, which));
        }
        return shown.toString();
    }
}
