import java.util.Random;

/**
 * Any calls with any numbers: none throws, the answers are the same each time, and what is refused
 * changes nothing: a twin that never gets the refused calls goes on to answer alike.
 */
public final class AnyCallsTest {
    private static final Due DUE = new Due();
    private static final int CALLS = 32;
    private static final int[] EDGES = {Integer.MIN_VALUE, Integer.MIN_VALUE + 1, -4096, -512, -100, -64, -10, -2, -1,
        0, 1, 2, 7, 8, 9, 10, 15, 16, 63, 64, 99, 100, 101, 511, 512, 999, 1000, 1023, 1024, 4095, 4096, 65535, 65536,
        99999, 161050, 161051, 177155, Integer.MAX_VALUE - 1, Integer.MAX_VALUE};

    public static void main(String[] args) {
        Random random = new Random(33);
        for (int run = 0; run < 3000; run++) {
            runOnce(random, run);
        }
        DUE.end();
    }

    private static void runOnce(Random random, int run) {
        CutBoard x = new CutBoard();
        CutBoard twin = new CutBoard();
        boolean wild = run % 3 == 0;
        if (run % 2 == 0) {
            int rows = 1 + random.nextInt(8);
            int columns = 1 + random.nextInt(8);
            DUE.is("board", x.board(rows, columns), twin.board(rows, columns));
        }
        for (int k = 0; k < 500; k++) {
            int which = random.nextInt(CALLS);
            int[] told = new int[3];
            for (int at = 0; at < 3; at++) {
                told[at] = wild ? anyInt(random) : likelyInt(random, which, at);
            }
            int got = call(x, which, told);
            if (got >= 0) {
                DUE.is("run " + run + " call " + which, call(twin, which, told), got);
            }
        }
    }

    private static int anyInt(Random random) {
        switch (random.nextInt(3)) {
            case 0: return EDGES[random.nextInt(EDGES.length)];
            case 1: return random.nextInt(20) - 2;
            default: return random.nextInt();
        }
    }

    private static int likelyInt(Random random, int which, int at) {
        boolean area = which == 8 && at == 0 || which == 9 && at == 1;
        boolean sheets = at == 0 && (which == 14 || which == 15 || which == 20);
        if (area) {
            int row = random.nextInt(8);
            int column = random.nextInt(8);
            return Due.area(row, Math.min(7, row + random.nextInt(3)), column, Math.min(7, column + random.nextInt(3)));
        }
        if (sheets) {
            return 100 * random.nextInt(4) + random.nextInt(8) - 1;
        }
        if (which == 15 || which == 24 || which == 27) {
            return random.nextInt(1024);
        }
        return random.nextInt(4) == 0 ? random.nextInt(70) - 2 : random.nextInt(10);
    }

    private static int call(CutBoard x, int which, int[] t) {
        switch (which) {
            case 0: return x.board(t[0], t[1]);
            case 1: return x.table(t[0], t[1], t[2]);
            case 2: return x.drying(t[0], t[1]);
            case 3: return x.against(t[0], t[1], t[2]);
            case 4: return x.mixed(t[0], t[1], t[2]);
            case 5: return x.lots(t[0], t[1]);
            case 6: return x.minutes(t[0]);
            case 7: return x.piece(t[0], t[1]);
            case 8: return x.cut(t[0]);
            case 9: return x.saw(t[0], t[1]);
            case 10: return x.cell(t[0], t[1]);
            case 11: return x.islands(t[0]);
            case 12: return x.joined(t[0], t[1]);
            case 13: return x.sheets(t[0]);
            case 14: return x.pull(t[0], t[1]);
            case 15: return x.blend(t[0], t[1]);
            case 16: return x.colour(t[0], t[1]);
            case 17: return x.led(t[0], t[1], t[2]);
            case 18: return x.good(t[0]);
            case 19: return x.book(t[0], t[1]);
            case 20: return x.free(t[0], t[1]);
            case 21: return x.wanted(t[0], t[1]);
            case 22: return x.want(t[0], t[1]);
            case 23: return x.order(t[0]);
            case 24: return x.fewest(t[0]);
            case 25: return x.place(t[0]);
            case 26: return x.made(t[0], t[1]);
            case 27: return x.why(t[0]);
            case 28: return x.alike(t[0], t[1], t[2]);
            case 29: return x.begin(t[0], t[1], t[2]);
            case 30: return x.shows(t[0]);
            default: return x.count(t[0]);
        }
    }
}
