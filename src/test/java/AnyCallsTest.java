import java.util.Random;

/**
 * Runs of any calls with any numbers, at most 512 on one object: none throws, each answer is the one that
 * Plain gives, and what is refused changes nothing: a twin that never gets the refused calls answers alike.
 */
public final class AnyCallsTest {
    private static final Due DUE = new Due();
    private static final Calls PROGRAM = new Calls(CutBoard.class);
    private static final Calls PLAIN = new Calls(Plain.class);
    private static final int[] EDGES = {Integer.MIN_VALUE, Integer.MIN_VALUE + 1, -4096, -512, -100, -64, -10, -2, -1,
        0, 1, 2, 3, 4, 5, 7, 8, 9, 10, 15, 16, 19, 20, 21, 63, 64, 99, 100, 101, 199, 200, 511, 512, 999, 1000, 1001,
        1023, 1024, 1919, 4095, 4096, 65535, 65536, 99999, 161050, 161051, 177155, Integer.MAX_VALUE - 1,
        Integer.MAX_VALUE};

    public static void main(String[] args) {
        Random random = new Random(33);
        for (int run = 0; run < 1500; run++) {
            runOnce(random, run);
        }
        DUE.end();
    }

    private static void runOnce(Random random, int run) {
        CutBoard x = new CutBoard();
        CutBoard twin = new CutBoard();
        Plain plain = new Plain();
        boolean wild = run % 5 == 0;
        for (int k = 0; k < 512; k++) {
            int which = random.nextInt(Calls.NAMES.length);
            int[] told = new int[3];
            for (int at = 0; at < 3; at++) {
                told[at] = wild || random.nextInt(60) == 0 ? anyInt(random) : likelyInt(random, which, at);
            }
            // Told early in most runs: without a board or sheets most calls have nothing to answer.
            if (k == 3 && run % 3 > 0) {
                which = 0;
            } else if (k == 5 && run % 4 > 0) {
                which = 13;
            }
            int got = PROGRAM.ask(x, which, told);
            String call = "run " + run + " call " + k + " " + PROGRAM.text(which, told);
            DUE.is(call, got, PLAIN.ask(plain, which, told));
            if (got >= 0) {
                DUE.is(call + " of the twin", PROGRAM.ask(twin, which, told), got);
            }
        }
    }

    private static int anyInt(Random random) {
        switch (random.nextInt(3)) {
            case 0: return EDGES[random.nextInt(EDGES.length)];
            case 1: return random.nextInt(20) - 2;
            default: return random.nextInt();
        }
    }

    /** A number that the call is likely to take. */
    private static int likelyInt(Random random, int which, int at) {
        switch (Calls.NAMES[which]) {
            case "board": return 1 + random.nextInt(8);
            case "table": return random.nextInt(at == 0 ? 10 : 16);
            case "drying": return at == 0 ? random.nextInt(10) : random.nextInt(8) == 0 ? 999 : random.nextInt(100);
            case "against": return random.nextInt(at == 2 ? 2 : 10);
            case "lots": return at == 0 ? random.nextInt(2) : random.nextInt(100);
            case "minutes": return random.nextInt(9) == 0 ? 1000 : 1 + random.nextInt(40);
            case "cut": return smallArea(random, 1);
            case "saw": return at == 0 ? random.nextInt(8) : smallArea(random, 5);
            case "piece": return random.nextInt(at == 0 ? 8 : 2);
            case "sheets": return 1 + random.nextInt(7);
            case "pull": case "blend": case "free": return likelyPull(random, which, at);
            case "colour": case "led": case "good": return random.nextInt(at == 0 ? 20 : at == 1 ? 64 : 3);
            case "cell": case "joined": return random.nextInt(at == 1 && which == 10 ? 2 : 64);
            case "book": return random.nextInt(at == 0 ? 30 : 5);
            case "wanted": return 1 + random.nextInt(4);
            case "want": return random.nextInt(16);
            case "fewest": case "why": return random.nextInt(30) == 0 ? 1023 : 1 << random.nextInt(10) | random.nextInt(16);
            case "alike": return at == 2 ? 1 << random.nextInt(5) : likelyRow(random);
            case "made": return at == 0 ? likelyRow(random) : random.nextInt(6);
            case "begin": return random.nextInt(at == 0 ? 21 : at == 1 ? 400 : 101);
            default: return random.nextInt(10);
        }
    }

    private static int likelyPull(Random random, int which, int at) {
        if (at > 0) {
            return random.nextInt(which == 15 ? 1000 : 10);
        }
        int first = random.nextInt(8);
        return random.nextInt(9) == 0 ? -1 : 100 * first + first + random.nextInt(6);
    }

    private static int likelyRow(Random random) {
        int told = 0;
        for (int k = random.nextInt(6); k > 0; k--) {
            told = told * 11 + 1 + random.nextInt(10);
        }
        return told;
    }

    private static int smallArea(Random random, int most) {
        int row = random.nextInt(8);
        int column = random.nextInt(8);
        return Due.area(row, Math.min(7, row + random.nextInt(most)), column, Math.min(7, column + random.nextInt(most)));
    }
}
