/**
 * A screen of a terminal whose wrapped lines are poured anew when it becomes wider or narrower.
 * The public methods test their arguments and record the state; a Sheet is a state and its changes,
 * a Pouring reads the lines of a sheet and tells where their signs come in another width.
 */
public final class PouredScreen {
    public static final int BAD = -1, STATE = -2, FULL = -3, NONE = -9;

    private static final int BLANK = 32;
    private static final int LEAST_SIGN = 33;
    private static final int MOST_SIGN = 126;
    private static final int BACKSPACE = 8;
    private static final int TAB = 9;
    private static final int LINE_FEED = 10;
    private static final int RETURN = 13;
    private static final int TAB_WIDTH = 4;

    private static final int LEAST_COLUMNS = 4;
    private static final int MOST_COLUMNS = 20;
    private static final int FIRST_COLUMNS = 10;
    private static final int LEAST_ROWS = 2;
    private static final int MOST_ROWS = 8;
    private static final int FIRST_ROWS = 4;
    private static final int MOST_HISTORY = 24;
    private static final int ALL_ROWS = MOST_HISTORY + MOST_ROWS;
    private static final int MOST_LINE_SIGNS = ALL_ROWS * MOST_COLUMNS;
    private static final int MOST_KEPT = 3;
    private static final int MOST_STATES = 8;
    private static final int MOST_ROWS_ASKED = 40;
    private static final long FIRST_HASH = 43174;

    /** The state at present. */
    private final Sheet sheet = new Sheet();
    /** The remembered states in a ring, so that no call has to make a new one. */
    private final Sheet[] remembered = new Sheet[MOST_STATES];
    private final Pouring pouring = new Pouring();
    /** Where in the ring the next state is recorded. */
    private int nextState = 0;
    private int states = 0;

    public PouredScreen() {
        for (int i = 0; i < MOST_STATES; i++) {
            remembered[i] = new Sheet();
        }
    }

    // ---- writing

    public int feed(int code) {
        boolean written = code >= BLANK && code <= MOST_SIGN;
        if (!written && !isControl(code)) {
            return BAD;
        }
        remember();
        if (written) {
            sheet.write(code);
        } else {
            obey(code);
        }
        return sheet.history;
    }

    public int moveTo(int row, int column) {
        if (!sheet.hasCell(row, column)) {
            return BAD;
        }
        remember();
        int before = sheet.width * sheet.cursor.row + sheet.cursor.column;
        sheet.cursor.set(row, column);
        return before;
    }

    public int setRegion(int first, int last) {
        if (first < 0 || last >= sheet.height || first >= last) {
            return BAD;
        }
        remember();
        sheet.first = first;
        sheet.last = last;
        sheet.cursor.set(0, 0);
        return last - first + 1;
    }

    // ---- erasing, inserting, deleting

    public int eraseLine(int kind) {
        if (kind < 0 || kind > 2) {
            return BAD;
        }
        remember();
        int before = sheet.taken();
        sheet.eraseInRow(kind);
        sheet.cursor.pending = false;
        return before - sheet.taken();
    }

    public int eraseScreen(int kind) {
        if (kind < 0 || kind > 2) {
            return BAD;
        }
        remember();
        int before = sheet.taken();
        sheet.eraseInRow(kind);
        if (kind != 0) {
            sheet.eraseRows(0, sheet.cursor.row - 1);
        }
        if (kind != 1) {
            sheet.eraseRows(sheet.cursor.row + 1, sheet.height - 1);
        }
        sheet.cursor.pending = false;
        return before - sheet.taken();
    }

    public int insertRows(int n) {
        if (n < 1 || n > MOST_ROWS) {
            return BAD;
        }
        if (!sheet.isCursorInRegion()) {
            return STATE;
        }
        remember();
        sheet.cursor.pending = false;
        return sheet.openRows(n);
    }

    public int deleteRows(int n) {
        if (n < 1 || n > MOST_ROWS) {
            return BAD;
        }
        if (!sheet.isCursorInRegion()) {
            return STATE;
        }
        remember();
        sheet.cursor.pending = false;
        return sheet.closeRows(n);
    }

    public int insertCells(int n) {
        if (n < 1 || n > MOST_COLUMNS) {
            return BAD;
        }
        remember();
        Row row = sheet.screenRow(sheet.cursor.row);
        int before = row.taken();
        row.openCells(sheet.cursor.column, Math.min(n, sheet.width - sheet.cursor.column), sheet.width);
        sheet.cursor.pending = false;
        return before - row.taken();
    }

    public int deleteCells(int n) {
        if (n < 1 || n > MOST_COLUMNS) {
            return BAD;
        }
        remember();
        Row row = sheet.screenRow(sheet.cursor.row);
        int before = row.taken();
        row.closeCells(sheet.cursor.column, Math.min(n, sheet.width - sheet.cursor.column), sheet.width);
        sheet.cursor.pending = false;
        return before - row.taken();
    }

    // ---- kept cursors, size

    public int keep() {
        if (sheet.keptCount >= MOST_KEPT) {
            return FULL;
        }
        remember();
        sheet.keepCursor();
        return sheet.keptCount;
    }

    public int back() {
        if (sheet.keptCount == 0) {
            return STATE;
        }
        remember();
        sheet.takeCursorBack();
        return sheet.keptCount;
    }

    public int resize(int columns, int rows) {
        if (!isWidth(columns) || rows < LEAST_ROWS || rows > MOST_ROWS) {
            return BAD;
        }
        Sheet before = remember();
        return pouring.pour(before, sheet, columns, rows);
    }

    // ---- what is told

    public int cell(int row, int column) {
        if (!sheet.hasCell(row, column)) {
            return BAD;
        }
        return Math.abs(sheet.screenRow(row).at(column));
    }

    public int row(int row, int what) {
        if (row < -MOST_HISTORY || row >= sheet.height || what < 0 || what > 3) {
            return BAD;
        }
        if (row < -sheet.history) {
            return NONE;
        }
        Row asked = sheet.screenRow(row);
        switch (what) {
            case 0:
                return asked.wrap ? 1 : 0;
            case 1:
                return asked.gap ? 1 : 0;
            case 2:
                return asked.filled();
            default:
                return asked.signs();
        }
    }

    public int line(int line, int what) {
        if (line < 0 || what < 0 || what > 2) {
            return BAD;
        }
        int start = sheet.startOfLine(line);
        if (start < 0) {
            return NONE;
        }
        int end = sheet.endOf(start);
        switch (what) {
            case 0:
                return sheet.signsOfLine(start, end);
            case 1:
                return end - start + 1;
            default:
                return Math.max(0, Math.min(end + 1, sheet.history) - start);
        }
    }

    public int sign(int line, int k) {
        if (line < 0 || k < 0) {
            return BAD;
        }
        int start = sheet.startOfLine(line);
        if (start < 0 || k >= MOST_LINE_SIGNS) {
            return NONE;
        }
        return pouring.signOf(sheet, start, sheet.endOf(start), k);
    }

    public int cursor(int which, int what) {
        if (which < 0 || which > MOST_KEPT || what < 0 || what > 3) {
            return BAD;
        }
        if (which > sheet.keptCount) {
            return NONE;
        }
        Place place = which == 0 ? sheet.cursor : sheet.keptPlace(sheet.keptCount - which);
        switch (what) {
            case 0:
                return place.row;
            case 1:
                return place.column;
            case 2:
                return sheet.lineOf(place);
            default:
                return sheet.markOf(place);
        }
    }

    // ---- what would be

    public int ifWidth(int columns) {
        return isWidth(columns) ? pouring.rowsIn(sheet, columns) : BAD;
    }

    public int widthFor(int rows) {
        if (rows < 1 || rows > MOST_ROWS_ASKED) {
            return BAD;
        }
        for (int columns = LEAST_COLUMNS; columns <= MOST_COLUMNS; columns++) {
            if (pouring.rowsIn(sheet, columns) <= rows) {
                return columns;
            }
        }
        return NONE;
    }

    // ---- the whole

    public int told(int what) {
        switch (what) {
            case 0:
                return sheet.width;
            case 1:
                return sheet.height;
            case 2:
                return sheet.first;
            case 3:
                return sheet.last;
            case 4:
                return sheet.cursor.pending ? 1 : 0;
            case 5:
                return sheet.history;
            case 6:
                return sheet.keptCount;
            case 7:
                return sheet.lines();
            case 8:
                return sheet.countedRows();
            case 9:
                return sheet.taken();
            case 10:
                return states;
            default:
                return BAD;
        }
    }

    public int undo() {
        if (states == 0) {
            return STATE;
        }
        nextState = (nextState + MOST_STATES - 1) % MOST_STATES;
        sheet.copyFrom(stateAt(nextState));
        states--;
        return states;
    }

    public long digest() {
        long h = FIRST_HASH;
        for (int what = 0; what <= 10; what++) {
            h = mix(h, told(what));
        }
        h = mixCells(mixRows(h));
        h = mixCursors(mixLines(h));
        for (int columns = LEAST_COLUMNS; columns <= MOST_COLUMNS; columns++) {
            h = mix(h, ifWidth(columns));
        }
        return h;
    }

    private static long mix(long h, int value) {
        return 31 * h + value;
    }

    private long mixRows(long h) {
        long mixed = h;
        for (int r = -sheet.history; r < sheet.height; r++) {
            for (int what = 0; what <= 3; what++) {
                mixed = mix(mixed, row(r, what));
            }
        }
        return mixed;
    }

    private long mixCells(long h) {
        long mixed = h;
        for (int r = 0; r < sheet.height; r++) {
            for (int c = 0; c < sheet.width; c++) {
                mixed = mix(mixed, cell(r, c));
            }
        }
        return mixed;
    }

    private long mixLines(long h) {
        long mixed = h;
        int lines = sheet.lines();
        for (int n = 0; n < lines; n++) {
            for (int what = 0; what <= 2; what++) {
                mixed = mix(mixed, line(n, what));
            }
            int start = sheet.startOfLine(n);
            pouring.begin(sheet, start, sheet.endOf(start), sheet.width);
            for (int k = 0; k < MOST_LINE_SIGNS && pouring.next(); k++) {
                mixed = mix(mixed, pouring.sign);
            }
        }
        return mixed;
    }

    private long mixCursors(long h) {
        long mixed = h;
        for (int which = 0; which <= sheet.keptCount; which++) {
            for (int what = 0; what <= 3; what++) {
                mixed = mix(mixed, cursor(which, what));
            }
        }
        return mixed;
    }

    // ---- codes, widths, remembered states

    private static boolean isControl(int code) {
        return code == BACKSPACE || code == TAB || code == LINE_FEED || code == RETURN;
    }

    private static boolean isWidth(int columns) {
        return columns >= LEAST_COLUMNS && columns <= MOST_COLUMNS;
    }

    /** How many cells a sign or a blank takes. */
    private static int sizeOf(int code) {
        return code >= 'A' && code <= 'Z' ? 2 : 1;
    }

    private void obey(int control) {
        Place cursor = sheet.cursor;
        switch (control) {
            case BACKSPACE:
                cursor.column = Math.max(0, cursor.column - 1);
                break;
            case TAB:
                cursor.column = Math.min(sheet.width - 1, (cursor.column / TAB_WIDTH + 1) * TAB_WIDTH);
                break;
            case LINE_FEED:
                sheet.lineFeed();
                break;
            default:
                cursor.column = 0;
                break;
        }
        cursor.pending = false;
    }

    private Sheet stateAt(int index) {
        return index >= 0 && index < remembered.length ? remembered[index] : sheet;
    }

    /** Records the state at present and returns the record; over the oldest one if the ring is full. */
    private Sheet remember() {
        Sheet record = stateAt(nextState);
        record.copyFrom(sheet);
        nextState = (nextState + 1) % MOST_STATES;
        states = Math.min(MOST_STATES, states + 1);
        return record;
    }

    /** Where a cursor is; of a kept one, pending is always false. */
    private static final class Place {
        private int row = 0;
        private int column = 0;
        private boolean pending = false;

        /** Puts it there, not pending. */
        void set(int newRow, int newColumn) {
            row = newRow;
            column = newColumn;
            pending = false;
        }

        void copyFrom(Place other) {
            row = other.row;
            column = other.column;
            pending = other.pending;
        }
    }

    /**
     * A row of cells. The right half of a wide sign holds its code below zero, so that the halves
     * can be told apart; the cells beyond the width of the screen are always blank.
     */
    private static final class Row {
        private final int[] cells = new int[MOST_COLUMNS];
        private boolean wrap;
        private boolean gap;

        Row() {
            clear();
        }

        int at(int column) {
            return column >= 0 && column < cells.length ? cells[column] : BLANK;
        }

        private void set(int column, int content) {
            if (column >= 0 && column < cells.length) {
                cells[column] = content;
            }
        }

        /** Becomes a new blank row. */
        void clear() {
            for (int c = 0; c < cells.length; c++) {
                cells[c] = BLANK;
            }
            wrap = false;
            gap = false;
        }

        void unmark() {
            wrap = false;
            gap = false;
        }

        void copyFrom(Row other) {
            System.arraycopy(other.cells, 0, cells, 0, MOST_COLUMNS);
            wrap = other.wrap;
            gap = other.gap;
        }

        /** How many cells are not blank. */
        int taken() {
            int count = 0;
            for (int content : cells) {
                count += content == BLANK ? 0 : 1;
            }
            return count;
        }

        /** How many cells there are up to the last one that is not blank. */
        int filled() {
            for (int c = cells.length - 1; c >= 0; c--) {
                if (cells[c] != BLANK) {
                    return c + 1;
                }
            }
            return 0;
        }

        boolean isBlank() {
            return filled() == 0;
        }

        /** How many signs there are that are not blank. */
        int signs() {
            int count = 0;
            for (int content : cells) {
                count += content >= LEAST_SIGN ? 1 : 0;
            }
            return count;
        }

        /** How many signs, blanks too, begin at a smaller column than this one. */
        int signsBefore(int column) {
            int count = 0;
            for (int c = 0; c < column && c < cells.length; c++) {
                count += cells[c] >= BLANK ? 1 : 0;
            }
            return count;
        }

        /** Blanks these cells, and the other half of a wide sign that is cut at either end. */
        void erase(int from, int to, int width) {
            int start = at(from) < 0 ? from - 1 : from;
            int end = at(to + 1) < 0 ? to + 1 : to;
            for (int c = start; c <= end; c++) {
                set(c, BLANK);
            }
            if (end == width - 1) {
                unmark();
            }
        }

        /** Puts a sign or a blank where there is room for it, without a look at what was there. */
        void put(int column, int code) {
            set(column, code);
            if (sizeOf(code) == 2) {
                set(column + 1, -code);
            }
        }

        void overwrite(int column, int code, int width) {
            erase(column, column + sizeOf(code) - 1, width);
            put(column, code);
        }

        void openCells(int column, int n, int width) {
            if (at(column) < 0) {
                set(column - 1, BLANK);
                set(column, BLANK);
            }
            for (int c = width - 1; c >= column + n; c--) {
                set(c, at(c - n));
            }
            for (int c = column; c < column + n; c++) {
                set(c, BLANK);
            }
            // A left half in the last cell has lost its right half over the edge.
            if (sizeOf(at(width - 1)) == 2) {
                set(width - 1, BLANK);
            }
            unmark();
        }

        void closeCells(int column, int n, int width) {
            erase(column, column + n - 1, width);
            for (int c = column; c < width; c++) {
                set(c, c + n < width ? at(c + n) : BLANK);
            }
            unmark();
        }
    }

    /**
     * A state: the rows of the history, from the oldest one on, with those of the screen behind them
     * in the same array, so that the row behind a row is the next one in it.
     */
    private static final class Sheet {
        /** All of them are there from the beginning on; those that are not used now are reserve. */
        private final Row[] rows = new Row[ALL_ROWS];
        private final Place cursor = new Place();
        private final Place[] kept = new Place[MOST_KEPT];
        private int keptCount = 0;
        private int history = 0;
        private int width = FIRST_COLUMNS;
        private int height = FIRST_ROWS;
        private int first = 0;
        private int last = FIRST_ROWS - 1;

        Sheet() {
            for (int r = 0; r < ALL_ROWS; r++) {
                rows[r] = new Row();
            }
            for (int k = 0; k < MOST_KEPT; k++) {
                kept[k] = new Place();
            }
        }

        void copyFrom(Sheet other) {
            history = other.history;
            width = other.width;
            height = other.height;
            first = other.first;
            last = other.last;
            keptCount = other.keptCount;
            cursor.copyFrom(other.cursor);
            for (int k = 0; k < keptCount; k++) {
                keptPlace(k).copyFrom(other.keptPlace(k));
            }
            for (int r = 0; r < history + height; r++) {
                rowAt(r).copyFrom(other.rowAt(r));
            }
        }

        /** Becomes a blank screen of this size; cursors are as before. */
        void clear(int columns, int screenRows) {
            for (Row row : rows) {
                row.clear();
            }
            history = 0;
            width = columns;
            height = screenRows;
            first = 0;
            last = screenRows - 1;
        }

        // ---- rows and places

        /** A row by its index in the array; no caller asks for one that is not there. */
        Row rowAt(int index) {
            return rows[index >= 0 && index < ALL_ROWS ? index : 0];
        }

        /** A row of the screen, or with a number below 0 one of the history. */
        Row screenRow(int row) {
            return rowAt(history + row);
        }

        boolean hasCell(int row, int column) {
            return row >= 0 && row < height && column >= 0 && column < width;
        }

        boolean isCursorInRegion() {
            return cursor.row >= first && cursor.row <= last;
        }

        Place keptPlace(int index) {
            return index >= 0 && index < kept.length ? kept[index] : cursor;
        }

        void keepCursor() {
            keptPlace(keptCount).set(cursor.row, cursor.column);
            keptCount++;
        }

        void takeCursorBack() {
            keptCount--;
            cursor.copyFrom(keptPlace(keptCount));
        }

        /** How many cells of the screen are not blank. */
        int taken() {
            int count = 0;
            for (int r = 0; r < height; r++) {
                count += screenRow(r).taken();
            }
            return count;
        }

        // ---- writing

        void write(int code) {
            if (cursor.pending) {
                goOn();
                cursor.pending = false;
            }
            if (sizeOf(code) == 2 && cursor.column == width - 1) {
                screenRow(cursor.row).overwrite(cursor.column, BLANK, width);
                if (goOn()) {
                    screenRow(cursor.row - 1).gap = true;
                }
            }
            screenRow(cursor.row).overwrite(cursor.column, code, width);
            cursor.column += sizeOf(code);
            if (cursor.column >= width) {
                cursor.column = width - 1;
                cursor.pending = true;
            }
        }

        /** Goes to the beginning of the next row, and returns whether the row above got a wrap. */
        private boolean goOn() {
            boolean wraps = lineFeed();
            cursor.column = 0;
            if (wraps) {
                screenRow(cursor.row - 1).wrap = true;
            }
            return wraps;
        }

        /** Returns whether it scrolled, or changed the row of the cursor. */
        boolean lineFeed() {
            if (cursor.row != last) {
                boolean moves = cursor.row < height - 1;
                cursor.row += moves ? 1 : 0;
                return moves;
            }
            if (first == 0) {
                pushTopRow();
            } else {
                takeRow(first);
            }
            return true;
        }

        /** Scrolls the region from row 0 on, which goes to the end of the history. */
        private void pushTopRow() {
            int bottom = history + last;
            rowAt(bottom).unmark();
            if (history < MOST_HISTORY) {
                // The first index behind the screen is that of a reserve row.
                carryBlank(history + height, bottom + 1);
                history++;
            } else {
                carryBlank(0, bottom);
            }
        }

        // ---- erasing, inserting, deleting

        /** Erases in the row of the cursor, by the kind that eraseLine() has. */
        void eraseInRow(int kind) {
            int from = kind == 0 ? cursor.column : 0;
            int to = kind == 1 ? cursor.column : width - 1;
            screenRow(cursor.row).erase(from, to, width);
        }

        void eraseRows(int from, int to) {
            for (int r = from; r <= to; r++) {
                screenRow(r).erase(0, width - 1, width);
            }
        }

        /** Inserts rows at that of the cursor, and returns how many not blank ones were lost. */
        int openRows(int n) {
            int lost = 0;
            for (int k = 0; k < n && k <= last - cursor.row; k++) {
                lost += screenRow(last).isBlank() ? 0 : 1;
                unmarkAbove(history + cursor.row);
                carryBlank(history + last, history + cursor.row);
                // What is the last row of the region now had another row behind it.
                screenRow(last).unmark();
            }
            return lost;
        }

        /** Takes rows away from that of the cursor on, and returns how many were not blank. */
        int closeRows(int n) {
            int lost = 0;
            for (int k = 0; k < n && k <= last - cursor.row; k++) {
                lost += screenRow(cursor.row).isBlank() ? 0 : 1;
                takeRow(cursor.row);
            }
            return lost;
        }

        /** Takes a row of the region away; those behind it move up, and a blank one comes in last. */
        private void takeRow(int row) {
            unmarkAbove(history + row);
            rowAt(history + last).unmark();
            carryBlank(history + row, history + last);
        }

        /** The row ahead loses its marks, as the row behind it becomes another one. */
        private void unmarkAbove(int index) {
            if (index > 0) {
                rowAt(index - 1).unmark();
            }
        }

        /** Takes a row out and puts it in, blank, at another index; those between move by one. */
        private void carryBlank(int from, int to) {
            if (from < 0 || from >= ALL_ROWS || to < 0 || to >= ALL_ROWS) {
                return;
            }
            Row carried = rows[from];
            for (int r = from; r < to; r++) {
                rows[r] = rows[r + 1];
            }
            for (int r = from; r > to; r--) {
                rows[r] = rows[r - 1];
            }
            carried.clear();
            rows[to] = carried;
        }

        // ---- lines, told by the indices of their first and last rows

        /** How many rows count: those behind them are blank and have no cursor. */
        int countedRows() {
            int lastRow = cursor.row;
            for (int k = 0; k < keptCount; k++) {
                lastRow = Math.max(lastRow, keptPlace(k).row);
            }
            for (int r = height - 1; r > lastRow; r--) {
                if (rowAt(history + r).filled() > 0) {
                    lastRow = r;
                }
            }
            return history + lastRow + 1;
        }

        boolean endsLine(int index, int counted) {
            return index >= counted - 1 || !rowAt(index).wrap;
        }

        /** How many lines end before the row with this index. */
        private int linesBefore(int index) {
            int counted = countedRows();
            int count = 0;
            for (int r = 0; r < index; r++) {
                count += endsLine(r, counted) ? 1 : 0;
            }
            return count;
        }

        int lines() {
            return linesBefore(countedRows());
        }

        /** The first row of the line with this number, or -1 if there are not so many lines. */
        int startOfLine(int line) {
            int counted = countedRows();
            int number = 0;
            for (int r = 0; r < counted; r++) {
                if (number == line) {
                    return r;
                }
                number += endsLine(r, counted) ? 1 : 0;
            }
            return -1;
        }

        /** The first row of the line that has the row with this index. */
        int startOf(int index) {
            int start = index;
            while (start > 0 && rowAt(start - 1).wrap) {
                start--;
            }
            return start;
        }

        /** The last row of the line that has the row with this index. */
        int endOf(int index) {
            int counted = countedRows();
            int end = index;
            while (end < counted && !endsLine(end, counted)) {
                end++;
            }
            return end;
        }

        /** How many cells of its line the row has, which ends the line or not. */
        int cellsOfLine(int index, boolean ends) {
            Row row = rowAt(index);
            if (ends) {
                return row.filled();
            }
            return row.gap ? width - 1 : width;
        }

        int signsOfLine(int start, int end) {
            int count = 0;
            for (int r = start; r <= end; r++) {
                count += rowAt(r).signsBefore(cellsOfLine(r, r == end));
            }
            return count;
        }

        int lineOf(Place place) {
            return linesBefore(startOf(history + place.row));
        }

        int markOf(Place place) {
            int index = history + place.row;
            int mark = 0;
            for (int r = startOf(index); r < index; r++) {
                mark += rowAt(r).signsBefore(cellsOfLine(r, false));
            }
            boolean ends = endsLine(index, countedRows());
            int cells = cellsOfLine(index, ends);
            int column = place.pending ? width : place.column;
            mark += rowAt(index).signsBefore(Math.min(column, cells));
            return ends ? mark + Math.max(0, column - cells) : mark;
        }
    }

    /**
     * Reads the signs of a line one after the other, and tells where each comes if the line is
     * poured into rows of some width, the first of which has the number 0.
     */
    private static final class Pouring {
        /** The sheet that is read; none ahead of the first begin(). */
        private Sheet from = null;
        private int inRow = 0;
        private int inColumn = 0;
        private int endRow = -1;
        private int cells = 0;
        private int width = FIRST_COLUMNS;
        /** What next() has read: the sign, how many there were by then, and its place. */
        private int sign = BLANK;
        private int read = 0;
        private int row = 0;
        private int column = 0;
        /** The column behind the sign. */
        private int behind = 0;
        /** Whether the sign began a new row, and whether it left a cell of the row before. */
        private boolean wraps = false;
        private boolean leftGap = false;

        /** Begins ahead of the first sign of the line that has these rows. */
        void begin(Sheet sheet, int start, int end, int columns) {
            from = sheet;
            inRow = start;
            inColumn = 0;
            endRow = end;
            cells = sheet.cellsOfLine(start, start == end);
            width = columns;
            read = 0;
            row = 0;
            behind = 0;
        }

        /** Reads the next sign, or returns false if there is none. */
        boolean next() {
            if (from == null) {
                return false;
            }
            while (inColumn >= cells && inRow < endRow) {
                inRow++;
                inColumn = 0;
                cells = from.cellsOfLine(inRow, inRow == endRow);
            }
            if (inColumn >= cells) {
                return false;
            }
            sign = from.rowAt(inRow).at(inColumn);
            int size = sizeOf(sign);
            inColumn += size;
            read++;
            wraps = behind + size > width;
            leftGap = wraps && behind < width;
            row += wraps ? 1 : 0;
            column = wraps ? 0 : behind;
            behind = column + size;
            return true;
        }

        /** The k-th sign of the line, or NONE. */
        int signOf(Sheet sheet, int start, int end, int k) {
            begin(sheet, start, end, sheet.width);
            return readUpTo(k) ? sign : NONE;
        }

        /** Reads on, from the beginning of a line, and returns whether it has a sign with this number. */
        private boolean readUpTo(int number) {
            for (int k = 0; k <= number; k++) {
                if (!next()) {
                    return false;
                }
            }
            return true;
        }

        /** Into how many rows the lines ahead of the row with this index would be poured. */
        private int rowsBefore(Sheet sheet, int index, int columns) {
            int counted = sheet.countedRows();
            int count = 0;
            int start = 0;
            for (int r = 0; r < index; r++) {
                if (sheet.endsLine(r, counted)) {
                    begin(sheet, start, r, columns);
                    int k = 0;
                    while (k < MOST_LINE_SIGNS && next()) {
                        k++;
                    }
                    count += row + 1;
                    start = r + 1;
                }
            }
            return count;
        }

        /** Into how many rows all lines would be poured. */
        int rowsIn(Sheet sheet, int columns) {
            return rowsBefore(sheet, sheet.countedRows(), columns);
        }

        /** Pours all lines of a sheet into another one of a new size, and returns their rows. */
        int pour(Sheet source, Sheet target, int columns, int rows) {
            int total = rowsIn(source, columns);
            int above = Math.max(0, total - rows);
            target.clear(columns, rows);
            target.history = Math.min(MOST_HISTORY, above);
            // Rows that come ahead of the history have an index below 0, and are dropped.
            int top = target.history - above;
            pourLines(source, target, top);
            follow(source, source.cursor, target, target.cursor, top);
            for (int k = 0; k < target.keptCount; k++) {
                Place kept = target.keptPlace(k);
                follow(source, source.keptPlace(k), target, kept, top);
                kept.pending = false;
            }
            return total;
        }

        private void pourLines(Sheet source, Sheet target, int top) {
            int counted = source.countedRows();
            int index = top;
            int start = 0;
            for (int r = 0; r < counted; r++) {
                if (source.endsLine(r, counted)) {
                    begin(source, start, r, target.width);
                    pourLine(target, index);
                    index += row + 1;
                    start = r + 1;
                }
            }
        }

        private void pourLine(Sheet target, int index) {
            for (int k = 0; k < MOST_LINE_SIGNS && next(); k++) {
                if (wraps && index + row - 1 >= 0) {
                    Row full = target.rowAt(index + row - 1);
                    full.wrap = true;
                    full.gap = leftGap;
                }
                if (index + row >= 0) {
                    target.rowAt(index + row).put(column, sign);
                }
            }
        }

        /** Puts a cursor of the target to where the mark is that it had in the source. */
        private void follow(Sheet source, Place old, Sheet target, Place place, int top) {
            int start = source.startOf(source.history + old.row);
            int mark = source.markOf(old);
            int index = top + rowsBefore(source, start, target.width);
            begin(source, start, source.endOf(start), target.width);
            boolean onSign = readUpTo(mark);
            index += row;
            if (index < target.history) {
                place.set(0, 0);
                return;
            }
            int newColumn = onSign ? column : behind + mark - read;
            place.set(index - target.history, Math.min(target.width - 1, newColumn));
            place.pending = !onSign && mark == read && read > 0 && behind == target.width;
        }
    }
}
