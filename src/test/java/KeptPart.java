/** Promises 39 to 42: what is kept and counted. */
final class KeptPart {
    private static final int MIN = Bench.MIN;
    private static final int MAX = Bench.MAX;

    private KeptPart() {
    }

    static void run() {
        keep();
        again();
        count();
        row();
    }

    private static void keep() {
        Bench.says(39, "All that 1. tells of a GAME, and ADVICE, is kept under a number 0 .. 1: true.");
        SoundAdvice x = Bench.of(Bench.STONE, "100000005");
        Bench.due("keep(0)", x.keep(0), true);
        Bench.play(x, Bench.TRIO);
        Bench.advise(x, "02000000");
        Bench.due("keep(1)", x.keep(1), true);
        Bench.due("what can be undone", x.count(7), 4);
        Bench.play(x, Bench.CHICKEN);
        x.again(0);
        Bench.due("P", x.count(1), 9);
        Bench.tokens(x, "100000005");
        Bench.pays(x, 0, "jikkjiikj");
        x.again(1);
        Bench.due("players", x.count(0), 3);
        Bench.tokens(x, "02000000");
        Bench.pays(x, 2, "ljjjjjjl");
        // kept again, the later one counts, and what is done behind it does not
        Bench.due("keep(0)", x.keep(0), true);
        x.lays(7, 1);
        x.pays(2, 7, 9);
        x.again(0);
        Bench.tokens(x, "02000000");
        Bench.pays(x, 2, "ljjjjjjl");

        Bench.says(39, "Refused: others.");
        for (int i : new int[] {-1, 2, MIN, MAX}) {
            Bench.stays(Bench.CHICKEN, "1110", "keep(" + i + ")", y -> y.keep(i) ? 1 : 0, 0);
        }
    }

    private static void again() {
        Bench.says(40, "It is as it was kept under a number.");
        SoundAdvice x = Bench.of(Bench.CHICKEN, "1110");
        x.keep(1);
        x.values();
        Signs.tell(x, "m01");
        x.lays(0, 1);
        x.pays(0, 0, -9);
        Bench.due("again(1)", x.again(1), true);
        Bench.tokens(x, "1110");
        Bench.pays(x, 0, "plqj");
        Bench.due("signs", x.count(9), 3);
        Bench.row(x, 15, 15, 30, 15);
        Bench.due("what can be undone", x.count(7), 0);
        // it stays kept
        x.day();
        Bench.tokens(x, "0210");
        Bench.due("again(1)", x.again(1), true);
        Bench.tokens(x, "1110");

        Bench.says(40, "Refused: nothing kept.");
        Bench.Made one = () -> {
            SoundAdvice y = Bench.of(Bench.CHICKEN, "1110");
            y.keep(1);
            y.lays(0, 1);
            y.values();
            Signs.tell(y, "m01");
            return y;
        };
        for (int i : new int[] {0, 2, -1, MIN, MAX}) {
            Bench.stays(one, "again(" + i + ")", y -> y.again(i) ? 1 : 0, 0);
        }
        for (int i : new int[] {2, -1, MIN, MAX}) {
            Bench.stays(Bench.CHICKEN, "1110", "again(" + i + ")", y -> y.again(i) ? 1 : 0, 0);
        }
    }

    private static void counts(SoundAdvice x, int... due) {
        for (int what = 0; what < due.length; what++) {
            Bench.due("count(" + what + ")", x.count(what), due[what]);
        }
    }

    private static void count() {
        Bench.says(41, "What 0: PLAYERS, 1: P, 2: T, 3, 4, 5: ACTIONS of PLAYERS 0, 1, 2 (0: none such), 6: PROFILES"
                + " with TOKENS (bits), 7: what can be undone, 8: numbers of the ROW, 9: signs of THE TEXT.");
        counts(new SoundAdvice(), 2, 4, 0, 2, 2, 0, 0, 0, 0, 0);
        counts(Bench.rich(Bench.STONE, "111111000", 10), 2, 9, 6, 3, 3, 0, 63, 8, 4, 15);
        counts(Bench.rich(Bench.TRIO, "10000003", 4), 3, 8, 4, 2, 2, 2, 129, 4, 5, 15);
        counts(Bench.of(Bench.FLAT_23, "000006"), 2, 6, 6, 2, 3, 0, 32, 2, 0, 0);
        counts(Bench.of(Bench.FLAT_32, "600000"), 2, 6, 6, 3, 2, 0, 1, 2, 0, 0);
        SoundAdvice x = Bench.of("33,aaaaaaaaaaaaaaaaaa", "111000111");
        x.plans();
        for (int i = 0; i < 20; i++) {
            x.sign(0);
        }
        counts(x, 2, 9, 6, 3, 3, 0, 455, 2, 18, 80);

        Bench.says(41, "NONE for another what.");
        for (int what : new int[] {-1, 10, MIN, MAX}) {
            Bench.stays(Bench.CHICKEN, "1110", "count(" + what + ")", y -> y.count(what), -1);
        }
    }

    private static void row() {
        Bench.says(42, "Number i of the ROW.");
        SoundAdvice x = Bench.of("33,aaaaaaaaaaaaaaaaaa");
        x.plans();
        for (int i = 0; i < 18; i++) {
            Bench.due("row(" + i + ")", x.row(i), i % 2 == 0 ? i / 2 : -18);
        }

        Bench.says(42, "NoSuchElementException: none such.");
        Bench.due("row(18)", Bench.rowAt(x, 18), Bench.THROWN);
        for (int i : new int[] {-1, 4, MIN, MAX}) {
            Bench.stays(Bench.CHICKEN, "1110", "row(" + i + ")", y -> Bench.rowAt(y, i), Bench.THROWN);
        }
        Bench.stays(Bench.CHICKEN, "1110", "row(3)", y -> Bench.rowAt(y, 3), 15);
        Bench.due("row(0) of none", Bench.rowAt(new SoundAdvice(), 0), Bench.THROWN);
        // a shorter row leaves nothing of a longer one
        x.gain(0, 0, 1);
        Bench.due("row(0)", Bench.rowAt(x, 0), 0);
        Bench.due("row(1)", Bench.rowAt(x, 1), Bench.THROWN);
        x.tight();
        Bench.due("row(0)", Bench.rowAt(x, 0), Bench.THROWN);
    }
}
