import java.util.Random;

/** Promises 25 to 28 against every row of at most five inks, tried one after the other. */
public final class RowsTest {
    private static final Due DUE = new Due();

    public static void main(String[] args) {
        Random random = new Random(20261116);
        for (int round = 0; round < 400; round++) {
            new Round(random).compare(round);
        }
        DUE.end();
    }

    /** One table and one picture, in the test's own hands. */
    private static final class Round {
        private final CutBoard x = new CutBoard();
        private final int[][] table = new int[10][16];
        private final int[] picture = new int[16];
        private final int rows;
        private final int columns;
        private final int allowed;
        private int[] best = null;
        private int everMade = 0;

        Round(Random random) {
            int colours = 2 + random.nextInt(15);
            for (int ink = 0; ink < 10; ink++) {
                for (int colour = 0; colour < 16; colour++) {
                    table[ink][colour] = random.nextInt(4) == 0 ? colour : random.nextInt(colours);
                    x.table(ink, colour, table[ink][colour]);
                }
            }
            rows = 1 + random.nextInt(4);
            columns = 1 + random.nextInt(4);
            int kinds = 1 + random.nextInt(7);
            int shift = random.nextInt(16);
            x.wanted(rows, columns);
            for (int row = 0; row < rows; row++) {
                for (int column = 0; column < columns; column++) {
                    int cell = 4 * row + column;
                    picture[cell] = random.nextInt(8) == 0 ? 0 : (shift + random.nextInt(kinds)) % colours;
                    x.want(cell, picture[cell]);
                }
            }
            allowed = random.nextInt(4) == 0 ? 1023 : random.nextInt(1024);
        }

        void compare(int round) {
            for (int length = 0; length <= 5; length++) {
                tryRows(new int[length], 0, 0, 1);
            }
            String name = "round " + round + " ";
            DUE.is(name + "25", x.fewest(allowed), best == null ? CutBoard.NOT : best.length);
            DUE.is(name + "28", x.why(allowed), whyNot());
            if (best == null) {
                DUE.is(name + "26", x.order(0), CutBoard.NONE);
                return;
            }
            for (int k = 0; k < 6; k++) {
                DUE.is(name + "26", x.order(k), k < best.length ? best[k] : CutBoard.NONE);
            }
            for (int cell = 0; cell < 16; cell++) {
                boolean there = cell / 4 < rows && cell % 4 < columns;
                DUE.is(name + "27", x.place(cell), there ? leastPlace(picture[cell]) : CutBoard.NONE);
            }
            int told = Due.row(best);
            DUE.is(name + "29", x.alike(told, told, wantedSet()), 1);
            for (int k = 0; k <= best.length; k++) {
                DUE.is(name + "30", x.made(told, k), colourAfter(k));
            }
        }

        private int wantedSet() {
            int set = 0;
            for (int cell = 0; cell < 16; cell++) {
                if (cell / 4 < rows && cell % 4 < columns) {
                    set |= 1 << picture[cell];
                }
            }
            return set;
        }

        private void tryRows(int[] row, int at, int colour, int set) {
            everMade |= set;
            if (at == row.length) {
                if (best == null && (wantedSet() & ~set) == 0) {
                    best = row.clone();
                }
                return;
            }
            for (int ink = 0; ink < 10; ink++) {
                if ((allowed >> ink & 1) == 1) {
                    row[at] = ink;
                    int next = table[ink][colour];
                    tryRows(row, at + 1, next, set | 1 << next);
                }
            }
        }

        private int whyNot() {
            int never = wantedSet() & ~everMade;
            return never != 0 ? never : best == null ? wantedSet() & ~1 : 0;
        }

        private int colourAfter(int k) {
            int colour = 0;
            for (int at = 0; at < k; at++) {
                colour = table[best[at]][colour];
            }
            return colour;
        }

        private int leastPlace(int colour) {
            int k = 0;
            while (colourAfter(k) != colour) {
                k++;
            }
            return k;
        }
    }
}
