import java.util.ArrayList;
import java.util.IdentityHashMap;
import java.util.List;
import java.util.Map;

/**
 * The document a second time, as plain as can be: a sign is an object that stands in each of its
 * cells, and the rules of halves and of the row behind are looked after behind each change by
 * comparing what is there with what was there. ModelTest compares it with PouredScreen.
 */
final class Model {
    private static final int BAD = -1;
    private static final int STATE = -2;
    private static final int FULL = -3;
    private static final int NONE = -9;

    private static final class Sign {
        final int code;

        Sign(int code) {
            this.code = code;
        }

        int size() {
            return Character.isUpperCase(code) ? 2 : 1;
        }
    }

    private static final class Row {
        /** null is a blank cell. */
        final Sign[] cells;
        boolean wrap;
        boolean gap;

        Row(int width) {
            cells = new Sign[width];
        }

        void unmark() {
            wrap = false;
            gap = false;
        }

        int filled() {
            int filled = 0;
            for (int c = 0; c < cells.length; c++) {
                filled = cells[c] == null ? filled : c + 1;
            }
            return filled;
        }

        int taken() {
            int taken = 0;
            for (Sign sign : cells) {
                taken += sign == null ? 0 : 1;
            }
            return taken;
        }

        Row copy() {
            Row copy = new Row(cells.length);
            System.arraycopy(cells, 0, copy.cells, 0, cells.length);
            copy.wrap = wrap;
            copy.gap = gap;
            return copy;
        }
    }

    /** A sign of a line, or a blank (then sign is null), and where it begins. */
    private static final class Item {
        final Sign sign;
        final int row;
        final int column;

        Item(Sign sign, int row, int column) {
            this.sign = sign;
            this.row = row;
            this.column = column;
        }

        int code() {
            return sign == null ? 32 : sign.code;
        }

        int size() {
            return sign == null ? 1 : sign.size();
        }
    }

    private static final class Line {
        final int start;
        int end;
        final List<Item> items = new ArrayList<>();

        Line(int start) {
            this.start = start;
        }
    }

    private int width = 10;
    private int height = 4;
    private int first = 0;
    private int last = 3;
    private int row = 0;
    private int column = 0;
    private boolean pending = false;
    private List<Row> history = new ArrayList<>();
    private List<Row> screen = new ArrayList<>();
    private List<int[]> kept = new ArrayList<>();
    private List<Model> states = new ArrayList<>();

    Model() {
        for (int r = 0; r < height; r++) {
            screen.add(new Row(width));
        }
    }

    private Model(Model other) {
        width = other.width;
        height = other.height;
        first = other.first;
        last = other.last;
        row = other.row;
        column = other.column;
        pending = other.pending;
        for (Row r : other.history) {
            history.add(r.copy());
        }
        for (Row r : other.screen) {
            screen.add(r.copy());
        }
        for (int[] place : other.kept) {
            kept.add(place.clone());
        }
    }

    private void record() {
        states.add(new Model(this));
        if (states.size() > 8) {
            states.remove(0);
        }
    }

    // ---- the rules of marks and halves

    private List<Row> allRows() {
        List<Row> all = new ArrayList<>(history);
        all.addAll(screen);
        return all;
    }

    private Map<Row, Row> behind() {
        List<Row> all = allRows();
        Map<Row, Row> behind = new IdentityHashMap<>();
        for (int r = 0; r < all.size(); r++) {
            behind.put(all.get(r), r + 1 < all.size() ? all.get(r + 1) : null);
        }
        return behind;
    }

    private void looseMarks(Map<Row, Row> before) {
        Map<Row, Row> now = behind();
        for (Row r : now.keySet()) {
            if (before.containsKey(r) && before.get(r) != now.get(r)) {
                r.unmark();
            }
        }
    }

    private void blankLoneHalves(Row r) {
        for (int c = 0; c < width; c++) {
            Sign sign = r.cells[c];
            if (sign != null && sign.size() == 2) {
                boolean left = c > 0 && r.cells[c - 1] == sign;
                boolean right = c + 1 < width && r.cells[c + 1] == sign;
                if (!left && !right) {
                    r.cells[c] = null;
                    if (c == width - 1) {
                        r.unmark();
                    }
                }
            }
        }
    }

    private void setCells(Row r, int from, int size, Sign sign) {
        for (int c = from; c < from + size; c++) {
            r.cells[c] = sign;
            if (c == width - 1) {
                r.unmark();
            }
        }
        blankLoneHalves(r);
    }

    private Row here() {
        return screen.get(row);
    }

    // ---- feeding

    private boolean lineFeed() {
        if (row == last) {
            Map<Row, Row> before = behind();
            Row taken = screen.remove(first);
            if (first == 0) {
                history.add(taken);
                if (history.size() > 24) {
                    history.remove(0);
                }
            }
            screen.add(last, new Row(width));
            looseMarks(before);
            return true;
        }
        if (row != height - 1) {
            row++;
            return true;
        }
        return false;
    }

    private boolean goOn() {
        boolean moved = lineFeed();
        column = 0;
        if (moved) {
            screen.get(row - 1).wrap = true;
        }
        return moved;
    }

    int feed(int code) {
        if (code != 8 && code != 9 && code != 10 && code != 13 && (code < 32 || code > 126)) {
            return BAD;
        }
        record();
        if (code >= 32) {
            Sign sign = new Sign(code);
            if (pending) {
                goOn();
                pending = false;
            }
            if (sign.size() == 2 && column == width - 1) {
                setCells(here(), column, 1, null);
                if (goOn()) {
                    screen.get(row - 1).gap = true;
                }
            }
            setCells(here(), column, sign.size(), code == 32 ? null : sign);
            column += sign.size();
            if (column == width) {
                column = width - 1;
                pending = true;
            }
            return history.size();
        }
        if (code == 8 && column != 0) {
            column--;
        } else if (code == 9) {
            do {
                column++;
            } while (column % 4 != 0);
            column = Math.min(column, width - 1);
        } else if (code == 10) {
            lineFeed();
        } else if (code == 13) {
            column = 0;
        }
        pending = false;
        return history.size();
    }

    int moveTo(int newRow, int newColumn) {
        if (newRow < 0 || newRow >= height || newColumn < 0 || newColumn >= width) {
            return BAD;
        }
        record();
        int answer = width * row + column;
        row = newRow;
        column = newColumn;
        pending = false;
        return answer;
    }

    int setRegion(int newFirst, int newLast) {
        if (newFirst < 0 || newLast > height - 1 || newLast <= newFirst) {
            return BAD;
        }
        record();
        first = newFirst;
        last = newLast;
        row = 0;
        column = 0;
        pending = false;
        return last - first + 1;
    }

    // ---- erasing, inserting, deleting

    private int takenOnScreen() {
        int taken = 0;
        for (Row r : screen) {
            taken += r.taken();
        }
        return taken;
    }

    private int erase(int kind, boolean whole) {
        if (kind < 0 || kind > 2) {
            return BAD;
        }
        record();
        int before = takenOnScreen();
        for (int r = 0; r < height; r++) {
            for (int c = 0; c < width; c++) {
                boolean same = r == row;
                boolean ahead = same ? c <= column : whole && r < row;
                boolean behind = same ? c >= column : whole && r > row;
                if (kind == 2 ? same || whole : kind == 1 ? ahead : behind) {
                    setCells(screen.get(r), c, 1, null);
                }
            }
        }
        pending = false;
        return before - takenOnScreen();
    }

    int eraseLine(int kind) {
        return erase(kind, false);
    }

    int eraseScreen(int kind) {
        return erase(kind, true);
    }

    private int moveRows(int n, boolean insert) {
        if (n < 1 || n > 8) {
            return BAD;
        }
        if (row < first || row > last) {
            return STATE;
        }
        record();
        Map<Row, Row> before = behind();
        int lost = 0;
        for (int k = 0; k < Math.min(n, last - row + 1); k++) {
            Row gone = screen.remove(insert ? last : row);
            lost += gone.filled() > 0 ? 1 : 0;
            screen.add(insert ? row : last, new Row(width));
        }
        looseMarks(before);
        pending = false;
        return lost;
    }

    int insertRows(int n) {
        return moveRows(n, true);
    }

    int deleteRows(int n) {
        return moveRows(n, false);
    }

    private int moveCells(int n, boolean insert) {
        if (n < 1 || n > 20) {
            return BAD;
        }
        record();
        Row r = here();
        int before = r.taken();
        List<Sign> cells = new ArrayList<>();
        for (Sign sign : r.cells) {
            cells.add(sign);
        }
        for (int k = 0; k < Math.min(n, width - column); k++) {
            cells.remove(insert ? width - 1 : column);
            cells.add(insert ? column : width - 1, null);
        }
        for (int c = 0; c < width; c++) {
            r.cells[c] = cells.get(c);
        }
        blankLoneHalves(r);
        r.unmark();
        pending = false;
        return before - r.taken();
    }

    int insertCells(int n) {
        return moveCells(n, true);
    }

    int deleteCells(int n) {
        return moveCells(n, false);
    }

    // ---- kept cursors

    int keep() {
        if (kept.size() == 3) {
            return FULL;
        }
        record();
        kept.add(new int[] {row, column});
        return kept.size();
    }

    int back() {
        if (kept.isEmpty()) {
            return STATE;
        }
        record();
        int[] place = kept.remove(kept.size() - 1);
        row = place[0];
        column = place[1];
        pending = false;
        return kept.size();
    }

    // ---- lines

    private int counted() {
        int counted = row + 1;
        for (int[] place : kept) {
            counted = Math.max(counted, place[0] + 1);
        }
        for (int r = 0; r < height; r++) {
            if (screen.get(r).filled() > 0) {
                counted = Math.max(counted, r + 1);
            }
        }
        return history.size() + counted;
    }

    private List<Line> lines() {
        List<Row> all = allRows().subList(0, counted());
        List<Line> lines = new ArrayList<>();
        for (int r = 0; r < all.size(); r++) {
            if (r == 0 || !all.get(r - 1).wrap) {
                lines.add(new Line(r));
            }
            lines.get(lines.size() - 1).end = r;
        }
        for (Line line : lines) {
            for (int r = line.start; r <= line.end; r++) {
                for (int c = 0; c < cellsOf(line, r); c++) {
                    Sign sign = all.get(r).cells[c];
                    boolean right = sign != null && c > 0 && all.get(r).cells[c - 1] == sign;
                    if (!right) {
                        line.items.add(new Item(sign, r, c));
                    }
                }
            }
        }
        return lines;
    }

    private int cellsOf(Line line, int r) {
        Row its = allRows().get(r);
        return r == line.end ? its.filled() : its.gap ? width - 1 : width;
    }

    private int lineOf(int screenRow) {
        int r = history.size() + screenRow;
        List<Line> lines = lines();
        for (int n = 0; n < lines.size(); n++) {
            if (lines.get(n).start <= r && r <= lines.get(n).end) {
                return n;
            }
        }
        throw new IllegalStateException("row " + r + " has no line");
    }

    private int markOf(int screenRow, int itsColumn) {
        int r = history.size() + screenRow;
        Line line = lines().get(lineOf(screenRow));
        int mark = 0;
        for (Item item : line.items) {
            if (item.row < r || item.row == r && item.column < itsColumn) {
                mark++;
            }
        }
        if (r == line.end && itsColumn > cellsOf(line, r)) {
            mark += itsColumn - cellsOf(line, r);
        }
        return mark;
    }

    // ---- pouring

    /** The rows that the lines make in some width; where[n] gets the places of line n's signs, and its first row. */
    private List<Row> poured(int columns, List<List<int[]>> where, List<Integer> starts) {
        List<Row> rows = new ArrayList<>();
        for (Line line : lines()) {
            List<int[]> places = new ArrayList<>();
            Row now = new Row(columns);
            rows.add(now);
            starts.add(rows.size() - 1);
            int c = 0;
            for (Item item : line.items) {
                if (c + item.size() > columns) {
                    now.wrap = true;
                    now.gap = c < columns;
                    now = new Row(columns);
                    rows.add(now);
                    c = 0;
                }
                places.add(new int[] {rows.size() - 1, c});
                for (int k = 0; k < item.size(); k++) {
                    now.cells[c++] = item.sign;
                }
            }
            where.add(places);
        }
        return rows;
    }

    int resize(int columns, int rows) {
        if (columns < 4 || columns > 20 || rows < 2 || rows > 8) {
            return BAD;
        }
        record();
        List<List<int[]>> where = new ArrayList<>();
        List<Integer> starts = new ArrayList<>();
        List<Row> poured = poured(columns, where, starts);
        int above = Math.max(0, poured.size() - rows);
        int[] cursor = placed(row, pending ? width : column, columns, where, starts, above);
        List<int[]> places = new ArrayList<>();
        for (int[] place : kept) {
            int[] to = placed(place[0], place[1], columns, where, starts, above);
            places.add(new int[] {to[0], to[1]});
        }
        kept = places;
        row = cursor[0];
        column = cursor[1];
        pending = cursor[2] == 1;
        history = new ArrayList<>(poured.subList(Math.max(0, above - 24), above));
        screen = new ArrayList<>(poured.subList(above, poured.size()));
        while (screen.size() < rows) {
            screen.add(new Row(columns));
        }
        width = columns;
        height = rows;
        first = 0;
        last = rows - 1;
        return poured.size();
    }

    /** Row, column, and 1 for pending, of a cursor behind the pouring. */
    private int[] placed(int oldRow, int oldColumn, int columns, List<List<int[]>> where, List<Integer> starts, int above) {
        int n = lineOf(oldRow);
        int mark = markOf(oldRow, oldColumn);
        List<Item> items = lines().get(n).items;
        List<int[]> places = where.get(n);
        int[] to;
        if (items.size() > mark) {
            to = new int[] {places.get(mark)[0], places.get(mark)[1], 0};
        } else {
            int lastRow = starts.get(n);
            int lastCell = -1;
            if (!items.isEmpty()) {
                int[] place = places.get(items.size() - 1);
                lastRow = place[0];
                lastCell = place[1] + items.get(items.size() - 1).size() - 1;
            }
            int newColumn = Math.min(columns - 1, lastCell + (mark - items.size()) + 1);
            boolean waits = mark == items.size() && mark != 0 && lastCell == columns - 1;
            to = new int[] {lastRow, newColumn, waits ? 1 : 0};
        }
        if (to[0] < above) {
            return new int[] {0, 0, 0};
        }
        to[0] -= above;
        return to;
    }

    // ---- what is told

    int cell(int r, int c) {
        if (r < 0 || r >= height || c < 0 || c >= width) {
            return BAD;
        }
        Sign sign = screen.get(r).cells[c];
        return sign == null ? 32 : sign.code;
    }

    int row(int r, int what) {
        if (r < -24 || r >= height || what < 0 || what > 3) {
            return BAD;
        }
        if (r < 0 && -r > history.size()) {
            return NONE;
        }
        Row asked = r >= 0 ? screen.get(r) : history.get(history.size() + r);
        if (what == 0) {
            return asked.wrap ? 1 : 0;
        }
        if (what == 1) {
            return asked.gap ? 1 : 0;
        }
        if (what == 2) {
            return asked.filled();
        }
        int signs = 0;
        for (int c = 0; c < width; c++) {
            signs += asked.cells[c] != null && (c == 0 || asked.cells[c - 1] != asked.cells[c]) ? 1 : 0;
        }
        return signs;
    }

    int line(int n, int what) {
        if (n < 0 || what < 0 || what > 2) {
            return BAD;
        }
        List<Line> lines = lines();
        if (n >= lines.size()) {
            return NONE;
        }
        Line line = lines.get(n);
        if (what == 0) {
            return line.items.size();
        }
        int rows = 0;
        for (int r = line.start; r <= line.end; r++) {
            rows += what == 1 || r < history.size() ? 1 : 0;
        }
        return rows;
    }

    int sign(int n, int k) {
        if (n < 0 || k < 0) {
            return BAD;
        }
        List<Line> lines = lines();
        if (n >= lines.size() || k >= lines.get(n).items.size()) {
            return NONE;
        }
        return lines.get(n).items.get(k).code();
    }

    int cursor(int which, int what) {
        if (which < 0 || which > 3 || what < 0 || what > 3) {
            return BAD;
        }
        if (which > kept.size()) {
            return NONE;
        }
        int itsRow = which == 0 ? row : kept.get(kept.size() - which)[0];
        int itsColumn = which == 0 ? column : kept.get(kept.size() - which)[1];
        if (what == 0) {
            return itsRow;
        }
        if (what == 1) {
            return itsColumn;
        }
        return what == 2 ? lineOf(itsRow) : markOf(itsRow, which == 0 && pending ? width : itsColumn);
    }

    int ifWidth(int columns) {
        if (columns < 4 || columns > 20) {
            return BAD;
        }
        return poured(columns, new ArrayList<>(), new ArrayList<>()).size();
    }

    int widthFor(int rows) {
        if (rows < 1 || rows > 40) {
            return BAD;
        }
        for (int columns = 4; columns <= 20; columns++) {
            if (ifWidth(columns) <= rows) {
                return columns;
            }
        }
        return NONE;
    }

    int told(int what) {
        switch (what) {
            case 0: return width;
            case 1: return height;
            case 2: return first;
            case 3: return last;
            case 4: return pending ? 1 : 0;
            case 5: return history.size();
            case 6: return kept.size();
            case 7: return lines().size();
            case 8: return counted();
            case 9: return takenOnScreen();
            case 10: return states.size();
            default: return BAD;
        }
    }

    int undo() {
        if (states.isEmpty()) {
            return STATE;
        }
        Model to = states.remove(states.size() - 1);
        width = to.width;
        height = to.height;
        first = to.first;
        last = to.last;
        row = to.row;
        column = to.column;
        pending = to.pending;
        history = to.history;
        screen = to.screen;
        kept = to.kept;
        return states.size();
    }

    long digest() {
        List<Integer> values = new ArrayList<>();
        for (int what = 0; what <= 10; what++) {
            values.add(told(what));
        }
        for (int r = -history.size(); r < height; r++) {
            for (int what = 0; what <= 3; what++) {
                values.add(row(r, what));
            }
        }
        for (int r = 0; r < height; r++) {
            for (int c = 0; c < width; c++) {
                values.add(cell(r, c));
            }
        }
        List<Line> lines = lines();
        for (int n = 0; n < lines.size(); n++) {
            values.add(lines.get(n).items.size());
            values.add(lines.get(n).end - lines.get(n).start + 1);
            values.add(line(n, 2));
            for (Item item : lines.get(n).items) {
                values.add(item.code());
            }
        }
        for (int which = 0; which <= kept.size(); which++) {
            for (int what = 0; what <= 3; what++) {
                values.add(cursor(which, what));
            }
        }
        for (int columns = 4; columns <= 20; columns++) {
            values.add(ifWidth(columns));
        }
        long h = 43174;
        for (int v : values) {
            h = 31 * h + v;
        }
        return h;
    }
}
