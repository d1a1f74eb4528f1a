import java.util.ArrayList;
import java.util.List;

/**
 * The document's words once more, as plainly as they stand and by other ways than the program's:
 * rows of inks are tried one after the other, islands grow by the eye, cells go by row and column.
 */
final class Plain {
    private static final int NONE = -1, FULL = -2, STATE = -3, NOT = -4;

    private static final class Sheet {
        final int[][] colour = new int[8][8];
        final int[][] ink = new int[8][8];
        final List<List<List<Integer>>> pullsOf = new ArrayList<>();
        final int[][] till = new int[8][8];
        boolean good = true;

        Sheet() {
            for (int row = 0; row < 8; row++) {
                pullsOf.add(new ArrayList<>());
                for (int column = 0; column < 8; column++) {
                    pullsOf.get(row).add(new ArrayList<>());
                }
            }
        }

        List<Integer> pulls(int cell) {
            return pullsOf.get(cell / 8).get(cell % 8);
        }
    }

    private int rows, columns, minute, z, slip;
    private final int[][] makes = new int[10][16];
    private final int[] dries = new int[10];
    private final boolean[][] against = new boolean[10][10];
    private final int[][] mixture = new int[10][10];
    private final boolean[][] isCut = new boolean[8][8];
    private final int[][] of = new int[8][8];
    private final List<Boolean> in = new ArrayList<>();
    private final List<Sheet> laidReady = new ArrayList<>();
    private final List<int[]> kept = new ArrayList<>();
    private int[][] want = null;
    private int[] found = {};
    private int[][] foundPlaces = {};

    Plain() {
        for (int ink = 0; ink < 10; ink++) {
            dries[ink] = 60;
            for (int colour = 0; colour < 16; colour++) {
                makes[ink][colour] = ink + 1;
            }
        }
    }

    private static boolean in(int least, int v, int most) {
        return least <= v && v <= most;
    }

    private static boolean isInk(int v) {
        return in(0, v, 9);
    }

    private static boolean isColour(int v) {
        return in(0, v, 15);
    }

    int board(int r, int c) {
        if (!in(1, r, 8) || !in(1, c, 8)) return NONE;
        if (rows > 0) return STATE;
        rows = r;
        columns = c;
        in.add(true);
        return 1;
    }

    int table(int i, int c, int m) {
        if (!isInk(i) || !isColour(c) || !isColour(m)) return NONE;
        int was = makes[i][c];
        makes[i][c] = m;
        return was;
    }

    int drying(int i, int m) {
        if (!isInk(i) || !in(0, m, 999)) return NONE;
        int was = dries[i];
        dries[i] = m;
        return was;
    }

    int against(int lies, int laid, int is) {
        if (!isInk(lies) || !isInk(laid) || !in(0, is, 1)) return NONE;
        int was = against[lies][laid] ? 1 : 0;
        against[lies][laid] = is == 1;
        return was;
    }

    int mixed(int p, int q, int i) {
        if (!isInk(p) || !isInk(q) || p == q || !isInk(i)) return NONE;
        int was = mixture[Math.min(p, q)][Math.max(p, q)];
        mixture[Math.min(p, q)][Math.max(p, q)] = i;
        return was;
    }

    int lots(int what, int v) {
        if (!in(0, what, 1) || what == 0 && !in(0, v, 999)) return NONE;
        if (what == 0) slip = v;
        if (what == 1) z = v;
        return 1;
    }

    int minutes(int n) {
        if (!in(1, n, 1000) || minute > 99999 - n) return NONE;
        return minute += n;
    }

    /** First row, last row, first column, last column; null if there is no such rectangle. */
    private int[] rectangle(int cells) {
        if (!in(0, cells, 4095)) return null;
        int[] at = {cells >> 9 & 7, cells >> 6 & 7, cells >> 3 & 7, cells & 7};
        return at[0] <= at[1] && at[1] < rows && at[2] <= at[3] && at[3] < columns ? at : null;
    }

    int cut(int cells) {
        int[] at = rectangle(cells);
        if (at == null) return NONE;
        int stood = 0;
        for (int row = at[0]; row <= at[1]; row++) {
            for (int column = at[2]; column <= at[3]; column++) {
                if (!isCut[row][column] && !in.get(of[row][column])) return STATE;
                if (!isCut[row][column]) stood++;
            }
        }
        for (int row = at[0]; row <= at[1]; row++) {
            for (int column = at[2]; column <= at[3]; column++) {
                isCut[row][column] = true;
            }
        }
        return stood;
    }

    int saw(int piece, int cells) {
        int[] at = rectangle(cells);
        if (at == null || !in(0, piece, in.size() - 1)) return NONE;
        List<int[]> taken = new ArrayList<>();
        int all = 0;
        for (int row = 0; row < rows; row++) {
            for (int column = 0; column < columns; column++) {
                if (of[row][column] != piece) continue;
                all++;
                if (in(at[0], row, at[1]) && in(at[2], column, at[3])) taken.add(new int[] {row, column});
            }
        }
        if (taken.isEmpty() || taken.size() == all) return NOT;
        if (in.size() == 8) return FULL;
        for (int[] cell : taken) of[cell[0]][cell[1]] = in.size();
        in.add(in.get(piece));
        return in.size() - 1;
    }

    int piece(int piece, int is) {
        if (!in(0, piece, in.size() - 1) || !in(0, is, 1)) return NONE;
        return in.set(piece, is == 1) ? 1 : 0;
    }

    private boolean isCell(int cell) {
        return in(0, cell, 63) && cell / 8 < rows && cell % 8 < columns;
    }

    private boolean lays(int row, int column) {
        return row < rows && column < columns && !isCut[row][column] && in.get(of[row][column]);
    }

    int cell(int cell, int what) {
        if (!isCell(cell) || !in(0, what, 1)) return NONE;
        return what == 1 ? of[cell / 8][cell % 8] : isCut[cell / 8][cell % 8] ? 0 : 1;
    }

    /** Each cell takes the least number of its neighbours, till none changes; -1 where nothing is laid. */
    private int[] groups() {
        int[] group = new int[64];
        for (int cell = 0; cell < 64; cell++) group[cell] = lays(cell / 8, cell % 8) ? cell : -1;
        for (int round = 0; round < 64; round++) {
            for (int a = 0; a < 64; a++) {
                for (int b : new int[] {a + 1, a + 8}) {
                    boolean beside = b < 64 && (b == a + 8 || a % 8 < 7);
                    if (beside && group[a] >= 0 && group[b] >= 0 && of[a / 8][a % 8] == of[b / 8][b % 8]) {
                        group[a] = group[b] = Math.min(group[a], group[b]);
                    }
                }
            }
        }
        return group;
    }

    int islands(int what) {
        if (!in(0, what, 2)) return NONE;
        int[] size = new int[64];
        int many = 0, greatest = 0, all = 0;
        for (int group : groups()) {
            if (group < 0) continue;
            all++;
            size[group]++;
            if (size[group] == 1) many++;
            greatest = Math.max(greatest, size[group]);
        }
        return what == 0 ? many : what == 1 ? greatest : all;
    }

    int joined(int a, int b) {
        if (!isCell(a) || !isCell(b)) return NONE;
        int[] group = groups();
        return group[a] >= 0 && group[a] == group[b] ? 1 : 0;
    }

    int sheets(int n) {
        if (!in(1, n, 20) || rows == 0) return NONE;
        if (laidReady.size() + n > 20) return FULL;
        for (int k = 0; k < n; k++) laidReady.add(new Sheet());
        return laidReady.size();
    }

    /** The sheets that are told, or null. */
    private List<Sheet> told(int sheets) {
        if (sheets < 0 || sheets / 100 > sheets % 100 || sheets % 100 >= laidReady.size()) return null;
        return laidReady.subList(sheets / 100, sheets % 100 + 1);
    }

    int pull(int sheets, int ink) {
        if (!isInk(ink)) return NONE;
        return pullWith(sheets, ink, new int[] {ink, ink, ink, ink, ink, ink, ink, ink});
    }

    int blend(int sheets, int inks) {
        if (!in(0, inks, 999)) return NONE;
        int p = inks / 100, q = inks / 10 % 10, c = inks % 10;
        if (p == q || c >= columns) return NONE;
        int[] by = new int[8];
        for (int column = 0; column < 8; column++) {
            by[column] = column < c ? p : column > c ? q : mixture[Math.min(p, q)][Math.max(p, q)];
        }
        return pullWith(sheets, 10, by);
    }

    private int pullWith(int sheets, int name, int[] by) {
        if (rows == 0 || sheets != -1 && told(sheets) == null) return NONE;
        if (kept.size() == 200) return FULL;
        int spoiled = 0;
        int laid = sheets == -1 ? 0 : islands(2);
        for (Sheet sheet : sheets == -1 ? new ArrayList<Sheet>() : told(sheets)) {
            if (!sheet.good) continue;
            z = z * 1103515245 + 12345;
            sheet.good = (z >>> 8) % 1000 >= slip;
            if (sheet.good) lay(sheet, by);
            if (!sheet.good) spoiled++;
        }
        kept.add(new int[] {name, minute, sheets, laid, spoiled});
        return kept.size() - 1;
    }

    private void lay(Sheet sheet, int[] by) {
        for (int row = 0; row < rows; row++) {
            for (int column = 0; column < columns; column++) {
                if (!lays(row, column)) continue;
                int ink = by[column];
                if (minute < sheet.till[row][column] && against[sheet.ink[row][column]][ink]) sheet.good = false;
                sheet.colour[row][column] = makes[ink][sheet.colour[row][column]];
                sheet.ink[row][column] = ink;
                sheet.till[row][column] = minute + dries[ink];
                sheet.pulls(8 * row + column).add(kept.size());
            }
        }
    }

    int colour(int sheet, int cell) {
        if (!in(0, sheet, laidReady.size() - 1) || !isCell(cell)) return NONE;
        return laidReady.get(sheet).colour[cell / 8][cell % 8];
    }

    int led(int sheet, int cell, int what) {
        if (!in(0, sheet, laidReady.size() - 1) || !isCell(cell) || !in(0, what, 2)) return NONE;
        List<Integer> pulls = laidReady.get(sheet).pulls(cell);
        if (what == 0) return pulls.isEmpty() ? -1 : pulls.get(pulls.size() - 1);
        return what == 1 ? pulls.size() : laidReady.get(sheet).till[cell / 8][cell % 8];
    }

    int good(int sheet) {
        if (!in(0, sheet, laidReady.size() - 1)) return NONE;
        return laidReady.get(sheet).good ? 1 : 0;
    }

    int book(int pull, int what) {
        return in(0, pull, kept.size() - 1) && in(0, what, 4) ? kept.get(pull)[what] : NONE;
    }

    int free(int sheets, int ink) {
        if (told(sheets) == null || !isInk(ink)) return NONE;
        int at = minute;
        while (meetsWet(told(sheets), ink, at)) at++;
        return at;
    }

    private boolean meetsWet(List<Sheet> sheets, int ink, int at) {
        for (Sheet sheet : sheets) {
            for (int cell = 0; cell < 64; cell++) {
                int row = cell / 8, column = cell % 8;
                if (sheet.good && lays(row, column) && !sheet.pulls(cell).isEmpty()
                        && at < sheet.till[row][column] && against[sheet.ink[row][column]][ink]) return true;
            }
        }
        return false;
    }

    int wanted(int r, int c) {
        if (!in(1, r, 4) || !in(1, c, 4)) return NONE;
        want = new int[r][c];
        return 1;
    }

    private static boolean isOf(int[][] picture, int cell) {
        return in(0, cell, 15) && cell / 4 < picture.length && cell % 4 < picture[0].length;
    }

    int want(int cell, int colour) {
        if (want == null || !isOf(want, cell) || !isColour(colour)) return NONE;
        int was = want[cell / 4][cell % 4];
        want[cell / 4][cell % 4] = colour;
        return was;
    }

    private int wantedSet() {
        int set = 0;
        for (int[] row : want) {
            for (int colour : row) set |= 1 << colour;
        }
        return set;
    }

    int fewest(int inks) {
        if (want == null || !in(0, inks, 1023)) return NONE;
        int[] row = firstRow(inks);
        if (row == null) return NOT;
        found = row;
        foundPlaces = new int[want.length][want[0].length];
        for (int r = 0; r < want.length; r++) {
            for (int c = 0; c < want[0].length; c++) {
                while (after(found, foundPlaces[r][c]) != want[r][c]) foundPlaces[r][c]++;
            }
        }
        return row.length;
    }

    private int[] firstRow(int inks) {
        for (int n = 0; n <= 5; n++) {
            int[] row = new int[n];
            if (fill(row, 0, 0, 1, inks)) return row;
        }
        return null;
    }

    private boolean fill(int[] row, int at, int colour, int set, int inks) {
        if (at == row.length) return (wantedSet() & ~set) == 0;
        for (int ink = 0; ink < 10; ink++) {
            row[at] = ink;
            int next = makes[ink][colour];
            if ((inks >> ink & 1) == 1 && fill(row, at + 1, next, set | 1 << next, inks)) return true;
        }
        return false;
    }

    private int after(int[] row, int k) {
        int colour = 0;
        for (int at = 0; at < k; at++) colour = makes[row[at]][colour];
        return colour;
    }

    int order(int k) {
        return in(0, k, found.length - 1) ? found[k] : NONE;
    }

    int place(int cell) {
        return foundPlaces.length > 0 && isOf(foundPlaces, cell) ? foundPlaces[cell / 4][cell % 4] : NONE;
    }

    int why(int inks) {
        if (want == null || !in(0, inks, 1023)) return NONE;
        int never = 0;
        for (int colour = 0; colour < 16; colour++) {
            if ((wantedSet() >> colour & 1) == 1 && !isMade(0, colour, 5, inks)) never |= 1 << colour;
        }
        if (never != 0) return never;
        return firstRow(inks) == null ? wantedSet() & ~1 : 0;
    }

    private boolean isMade(int from, int colour, int pulls, int inks) {
        if (from == colour) return true;
        for (int ink = 0; ink < 10 && pulls > 0; ink++) {
            if ((inks >> ink & 1) == 1 && isMade(makes[ink][from], colour, pulls - 1, inks)) return true;
        }
        return false;
    }

    /** The inks of a row that is told, or null. */
    private static int[] rowOf(int told) {
        if (told < 0) return null;
        String digits = told == 0 ? "" : Integer.toString(told, 11);
        if (digits.length() > 5 || digits.indexOf('0') >= 0) return null;
        return digits.chars().map(digit -> Character.digit(digit, 11) - 1).toArray();
    }

    int alike(int row, int other, int colours) {
        int[] one = rowOf(row), two = rowOf(other);
        if (one == null || two == null || !in(0, colours, 65535)) return NONE;
        for (int colour = 0; colour < 16; colour++) {
            if ((colours >> colour & 1) == 1 && !(has(one, colour) && has(two, colour))) return 0;
        }
        return 1;
    }

    private boolean has(int[] row, int colour) {
        for (int k = 0; k <= row.length; k++) {
            if (after(row, k) == colour) return true;
        }
        return false;
    }

    int made(int row, int k) {
        int[] inks = rowOf(row);
        return inks == null || !in(0, k, inks.length) ? NONE : after(inks, k);
    }

    int begin(int n, int slip, int w) {
        if (!in(0, n, 20) || !in(0, slip, 999) || !in(1, w, 100)) return NONE;
        int few = 0, enough = 100001;
        while (enough - few > 1) {
            int m = (few + enough) / 2;
            if (left(m, n, slip) >= w) enough = m;
            else few = m;
        }
        return enough > 100000 ? NOT : enough;
    }

    private static int left(int m, int n, int slip) {
        int left = m;
        for (int k = 0; k < n; k++) left = left * (1000 - slip) / 1000;
        return left;
    }

    int shows(int sheet) {
        if (!in(0, sheet, laidReady.size() - 1) || want == null) return NONE;
        if (want.length > rows || want[0].length > columns) return NONE;
        for (int row = 0; row < rows; row++) {
            for (int column = 0; column < columns; column++) {
                boolean within = row < want.length && column < want[0].length;
                if (laidReady.get(sheet).colour[row][column] != (within ? want[row][column] : 0)) return 0;
            }
        }
        return 1;
    }

    int count(int what) {
        int good = 0, cut = 0;
        for (Sheet sheet : laidReady) good += sheet.good ? 1 : 0;
        for (boolean[] row : isCut) {
            for (boolean cell : row) cut += cell ? 1 : 0;
        }
        int[] counts = {in.size(), laidReady.size(), good, kept.size(), minute, rows * columns - cut, cut};
        return in(0, what, 6) ? counts[what] : NONE;
    }
}
