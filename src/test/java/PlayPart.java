import java.util.Arrays;

/** Promises 25 to 30: play, and what would be. */
final class PlayPart {
    private static final int MIN = Bench.MIN;
    private static final int MAX = Bench.MAX;

    private PlayPart() {
    }

    static void run() {
        play();
        calm();
        calmNone();
        mixed();
        were();
        range();
        mends();
    }

    private static void play() {
        Bench.says(25, "PLAY of n ROUNDS (1 .. 60) by a RULE (0, 1) from a PROFILE: how many unlike PROFILES were"
                + " played; the ROW: these, as they came first, each with its ROUNDS; behind all the most REGRET of"
                + " any PLAYER for any ACTION.");
        SoundAdvice x = Bench.of(Bench.DILEMMA);
        for (int rule = 0; rule < 2; rule++) {
            Bench.due("one round", x.play(rule, 0, 0, 1), 1);
            Bench.row(x, 0, 1, 2);
            Bench.due("sixty rounds", x.play(rule, 0, 0, 60), 2);
            Bench.row(x, 0, 1, 3, 59, 2);
            Bench.due("from the last", x.play(rule, 0, 3, 60), 1);
            Bench.row(x, 3, 60, 0);
        }
        SoundAdvice y = Bench.of(Bench.PENNIES);
        Bench.due("five rounds", y.play(0, 0, 0, 5), 3);
        Bench.row(y, 0, 1, 1, 2, 3, 2, 2);
        SoundAdvice z = Bench.of(Bench.STONE);
        // all nine of them
        Bench.due("sixty rounds by draws", z.play(1, 0, 0, 60), 9);
        Bench.row(z, 0, 1, 4, 2, 5, 6, 8, 2, 2, 8, 1, 12, 7, 11, 6, 9, 3, 9, 6);
        int unlike = z.play(1, 4, 1, 60);
        Bench.due("numbers", z.count(8), 2 * unlike + 1);
        long rounds = 0;
        for (int k = 0; k < unlike; k++) {
            rounds += z.row(2 * k + 1);
        }
        Bench.due("rounds together", rounds, 60);
        Bench.due("from 1", z.row(0), 1);

        Bench.says(25, "NONE: others.");
        int[][] none = {{2, 0, 0, 1}, {-1, 0, 0, 1}, {MIN, 0, 0, 1}, {MAX, 0, 0, 1}, {0, 0, 4, 1}, {0, 0, -1, 1},
            {0, 0, MIN, 1}, {0, 0, MAX, 1}, {0, 0, 0, 0}, {0, 0, 0, 61}, {0, 0, 0, -1}, {1, 0, 0, 0}, {1, 0, 0, 61},
            {0, 0, 0, MIN}, {1, 0, 0, MAX}};
        for (int[] a : none) {
            Bench.stays(Bench.CHICKEN, "1110", "play" + Arrays.toString(a), w -> w.play(a[0], a[1], a[2], a[3]), -1);
        }
        Bench.stays(Bench.STONE, "100000000", "play from 9", w -> w.play(0, 0, 9, 1), -1);
        Bench.stays(Bench.TRIO, "10000000", "play from 8", w -> w.play(0, 0, 8, 1), -1);
        Bench.due("play from 8", Bench.of(Bench.STONE).play(0, 0, 8, 1), 1);
        Bench.due("play from 7", Bench.of(Bench.TRIO).play(1, 0, 7, 1), 1);
        for (int seed : new int[] {MIN, -1, 0, MAX}) {
            Bench.due("any seed", Bench.of(Bench.CHICKEN).play(1, seed, 1, 60), 1);
        }
    }

    /** As calm(), by the most regret that play() tells for each number of rounds. */
    private static int calmByPlay(SoundAdvice x, int rule, int seed, int from, int by) {
        long[] most = new long[61];
        for (int n = 1; n <= 60; n++) {
            int unlike = x.play(rule, seed, from, n);
            most[n] = x.row(2 * unlike);
        }
        for (int r = 1; r <= 60; r++) {
            boolean isCalm = true;
            for (int t = r; t <= Math.min(60, r + 4); t++) {
                isCalm &= most[t] <= t * by / 10;
            }
            if (isCalm) {
                return r;
            }
        }
        return -2;
    }

    private static void calm(String game, int by, int due) {
        Bench.stays(game, "0000", "calm by " + by + " of " + game, x -> x.calm(0, 0, 0, by), due);
        Bench.due("by play of " + game, calmByPlay(Bench.of(game), 0, 0, 0, by), due);
    }

    private static void calm() {
        Bench.says(26, "The least number r of ROUNDS (1 .. 60) of PLAY so that behind r ROUNDS, and behind each of"
                + " the next four (as far as 60), the most REGRET of any PLAYER for any ACTION is at most the ROUNDS"
                + " so far times by, by 10 (rounded down; by 0 .. 30): r.");
        // the most regret is 2 for ever: 19 times 1 by 10 is 1, 20 times 1 is 2
        int[][] dilemma = {{1, 20}, {2, 10}, {3, 7}, {5, 4}, {10, 2}, {19, 2}, {20, 1}, {30, 1}};
        for (int[] one : dilemma) {
            calm(Bench.DILEMMA, one[0], one[1]);
        }
        Bench.due("by 0 of a plan", Bench.of(Bench.DILEMMA).calm(0, 0, 3, 0), 1);
        Bench.due("by 0 of a plan", Bench.of(Bench.DILEMMA).calm(1, 9, 3, 0), 1);
        // 1, 1, 1, 5 and 12 for long: calm behind four rounds, not behind the fifth
        calm("22,rlpbsaaf", 13, 10);
        // 2, 2, 4, 4, 4 and 13: behind five, that is enough
        calm("22,hspijijp", 20, 1);
        // from 11 on behind four, from 22 on behind six
        calm("22,fpoipggq", 13, 16);
        calm("22,ghsdqblp", 5, 22);
        // as far as 60: behind the last one alone, behind the last two .. six
        calm("22,hdrpgmac", 2, 60);
        calm("22,bjnsrlcf", 30, 59);
        calm("22,ghsdqblp", 4, 58);
        calm("22,ipkdpcih", 3, 57);
        calm("22,eqpeoddi", 5, 56);
        calm("22,bqiamemd", 2, 55);
        // 6 for ever, at last 60 times 1 by 10
        calm("22,jjjppjkk", 1, 60);
        for (int seed = 0; seed < 20; seed++) {
            for (int by = 0; by <= 30; by += 5) {
                SoundAdvice x = Bench.of(Bench.STONE);
                Bench.due("stone by " + by, x.calm(1, seed, 1, by), calmByPlay(x, 1, seed, 1, by));
                SoundAdvice y = Bench.of(Bench.CHICKEN);
                Bench.due("chicken by " + by, y.calm(1, seed, 0, by), calmByPlay(y, 1, seed, 0, by));
            }
        }
    }

    private static void calmNone() {
        Bench.says(26, "-2: none; NONE: others.");
        calm(Bench.DILEMMA, 0, -2);
        // 7 for ever
        calm("22,jjjqqjkk", 1, -2);
        int[][] none = {{2, 0, 0, 1}, {-1, 0, 0, 1}, {MIN, 0, 0, 1}, {MAX, 0, 0, 1}, {0, 0, 4, 1}, {0, 0, -1, 1},
            {0, 0, MIN, 1}, {0, 0, MAX, 1}, {0, 0, 0, -1}, {0, 0, 0, 31}, {1, 0, 0, -1}, {1, 0, 0, 31}, {0, 0, 0, MIN},
            {0, 0, 0, MAX}};
        for (int[] a : none) {
            Bench.stays(Bench.DILEMMA, "1110", "calm" + Arrays.toString(a), w -> w.calm(a[0], a[1], a[2], a[3]), -1);
        }
        Bench.stays(Bench.STONE, "100000000", "calm from 9", w -> w.calm(0, 0, 9, 1), -1);
        Bench.stays(Bench.TRIO, "10000000", "calm from 8", w -> w.calm(0, 0, 8, 1), -1);
        Bench.due("calm from 7", Bench.of(Bench.TRIO).calm(0, 0, 7, 0), 1);
    }

    private static void mixed() {
        Bench.says(27, "1 if ADVICE with that kept under a number laid on it (TOKENS added) were SOUND, else 0; the"
                + " ROW: WELFARE of it, T of it.");
        SoundAdvice x = Bench.of(Bench.CHICKEN, "1010");
        x.keep(0);
        Bench.advise(x, "0100");
        x.keep(1);
        Bench.due("sound together", x.mixed(0), 1);
        Bench.row(x, 30, 3);
        Bench.due("with itself", x.mixed(1), 1);
        Bench.row(x, 18, 2);
        Bench.advise(x, "1000");
        Bench.due("not sound together", x.mixed(0), 0);
        Bench.row(x, 33, 3);
        Bench.tokens(x, "1000");
        // more than 6 together, as many as 12
        Bench.advise(x, "0600");
        x.keep(1);
        Bench.due("8", x.mixed(0), 1);
        Bench.row(x, 75, 8);
        Bench.due("12", x.mixed(1), 1);
        Bench.row(x, 108, 12);
        Bench.advise(x, "0000");
        Bench.due("6 and none", x.mixed(1), 1);
        Bench.row(x, 54, 6);
        SoundAdvice y = new SoundAdvice();
        y.keep(0);
        Bench.due("none and none", y.mixed(0), 1);
        Bench.row(y, 0, 0);
        // pays are those of now, not those that are kept
        y.pays(0, 2, 1);
        y.lays(0, 1);
        Bench.due("by the pays of now", y.mixed(0), 0);
        Bench.row(y, 0, 1);

        Bench.says(27, "NONE: nothing kept, another number of PROFILES there.");
        for (int number : new int[] {-1, 2, MIN, MAX}) {
            Bench.stays(Bench.CHICKEN, "1110", "mixed(" + number + ")", z -> z.mixed(number), -1);
        }
        Bench.Made fresh = () -> Bench.of(Bench.CHICKEN, "1110");
        Bench.stays(fresh, "mixed(0)", z -> z.mixed(0), -1);
        Bench.stays(fresh, "mixed(1)", z -> z.mixed(1), -1);
        // under 0 a game of 4 profiles is kept
        Bench.stays(Bench.STONE, "100000000", "4 for 9", z -> z.mixed(0), -1);
        Bench.stays(Bench.TRIO, "10000000", "4 for 8", z -> z.mixed(0), -1);
        Bench.stays(Bench.FLAT_23, "100000", "4 for 6", z -> z.mixed(0), -1);
        SoundAdvice w = Bench.of(Bench.FLAT_23, "000001");
        w.keep(0);
        Bench.play(w, "32,kkkkkkkkkkkk");
        Bench.due("6 for 6", w.mixed(0), 1);
        Bench.row(w, 2, 1);
    }

    private static void were() {
        Bench.says(28, "1 if ADVICE were SOUND, were PAY of a PLAYER in a PROFILE v, else 0; the ROW: the greatest"
                + " GAIN.");
        SoundAdvice x = Bench.of(Bench.CHICKEN, "1110");
        int[] sound = {0, 1, 1, 1, 0};
        int[] most = {1, 0, -1, 0, 1};
        for (int v = 4; v <= 8; v++) {
            Bench.due("were(0, 0, " + v + ")", x.were(0, 0, v), sound[v - 4]);
            Bench.row(x, most[v - 4]);
        }
        Bench.due("9", x.were(0, 0, 9), 0);
        Bench.row(x, 2);
        Bench.due("-9", x.were(0, 0, -9), 0);
        Bench.row(x, 14);
        Bench.due("in the last one", x.were(1, 3, 9), 0);
        Bench.row(x, 8);
        Bench.pays(x, 0, "plqj");
        Bench.due("what can be undone", x.count(7), 2);
        Bench.due("of three", Bench.of(Bench.TRIO, "00000001").were(2, 7, -1), 0);

        Bench.says(28, "NONE: no such ones, v not -9 .. 9.");
        int[][] none = {{2, 0, 0}, {-1, 0, 0}, {MIN, 0, 0}, {MAX, 0, 0}, {0, 4, 0}, {0, -1, 0}, {0, MIN, 0},
            {0, MAX, 0}, {0, 0, 10}, {0, 0, -10}, {0, 0, MIN}, {0, 0, MAX}};
        for (int[] a : none) {
            Bench.stays(Bench.CHICKEN, "1110", "were" + Arrays.toString(a), y -> y.were(a[0], a[1], a[2]), -1);
        }
        Bench.stays(Bench.TRIO, "10000000", "were(3, 0, 0)", y -> y.were(3, 0, 0), -1);
        Bench.stays(Bench.TRIO, "10000000", "were(2, 8, 0)", y -> y.were(2, 8, 0), -1);
        Bench.stays(Bench.STONE, "100000000", "were(0, 9, 0)", y -> y.were(0, 9, 0), -1);
    }

    private static void range(String game, String advice, int player, int profile, long[] due) {
        SoundAdvice x = Bench.of(game, advice);
        Bench.due("range(" + player + ", " + profile + ") of " + game + " " + advice, x.range(player, profile),
                due[1] - due[0] + 1);
        Bench.row(x, due);
        Bench.due("what can be undone", x.count(7), 2);
    }

    private static void range() {
        Bench.says(29, "The PAYS v (-9 .. 9) of a PLAYER in a PROFILE by which ADVICE were SOUND: how many; the ROW:"
                + " the least, the greatest of them.");
        range(Bench.CHICKEN, "1110", 0, 0, new long[] {5, 7});
        range(Bench.CHICKEN, "1110", 0, 3, new long[] {-9, 1});
        range(Bench.CHICKEN, "1110", 1, 1, new long[] {6, 8});
        range(Bench.CHICKEN, "0000", 1, 3, new long[] {-9, 9});
        range(Bench.FLAT_33, "000000001", 1, 8, new long[] {0, 9});
        range(Bench.FLAT_33, "000000001", 1, 7, new long[] {-9, 0});
        range(Bench.FLAT_33, "000000001", 1, 5, new long[] {-9, 9});
        range("22,sjjjjjjj", "1000", 0, 2, new long[] {-9, 9});
        range("22,ajjjajjj", "1000", 0, 2, new long[] {-9, -9});
        range("22,ajjjsjjj", "1000", 0, 0, new long[] {9, 9});
        range(Bench.TRIO, "00000001", 2, 6, new long[] {-9, 2});

        Bench.says(29, "-2: none; NONE: no such ones.");
        Bench.stays(Bench.DILEMMA, "1000", "range(0, 0)", x -> x.range(0, 0), -2);
        // by none of 0's pays 1 does as it is told
        Bench.stays(Bench.CHICKEN, "1000", "range(0, 2)", x -> x.range(0, 2), -2);
        int[][] none = {{2, 0}, {-1, 0}, {MIN, 0}, {MAX, 0}, {0, 4}, {0, -1}, {0, MIN}, {0, MAX}};
        for (int[] a : none) {
            Bench.stays(Bench.CHICKEN, "1110", "range" + Arrays.toString(a), y -> y.range(a[0], a[1]), -1);
            Bench.stays(Bench.DILEMMA, "1000", "range" + Arrays.toString(a), y -> y.range(a[0], a[1]), -1);
        }
        Bench.stays(Bench.TRIO, "10000000", "range(3, 0)", y -> y.range(3, 0), -1);
        Bench.stays(Bench.TRIO, "10000000", "range(2, 8)", y -> y.range(2, 8), -1);
    }

    private static void mends(String game, String advice, int many, long... row) {
        SoundAdvice x = Bench.of(game, advice);
        Bench.due("mends() of " + game + " " + advice, x.mends(), many);
        Bench.row(x, row);
        Bench.tokens(x, advice);
        Bench.due("what can be undone", x.count(7), 2);
    }

    private static void mends() {
        Bench.says(30, "The fewest TOKENS that have to be moved (each from a PROFILE to another one) till ADVICE is"
                + " SOUND: how many (0, if it is); the ROW: TOKENS then (of several that AHEAD).");
        mends(Bench.CHICKEN, "1110", 0, 1, 1, 1, 0);
        mends(Bench.CHICKEN, "0030", 0, 0, 0, 3, 0);
        mends(Bench.CHICKEN, "3000", 2, 1, 1, 1, 0);
        mends(Bench.CHICKEN, "1000", 1, 0, 1, 0, 0);
        mends(Bench.CHICKEN, "0001", 1, 0, 1, 0, 0);
        mends(Bench.CHICKEN, "1020", 1, 1, 1, 1, 0);
        // all six of them
        mends(Bench.DILEMMA, "6000", 6, 0, 0, 0, 6);
        mends(Bench.DILEMMA, "5001", 5, 0, 0, 0, 6);
        mends(Bench.PENNIES, "4000", 3, 1, 1, 1, 1);
        // each has more the more it does: all tokens on the last profile
        mends("33,jjjkjlkjkkklljlkll", "300020001", 5, 0, 0, 0, 0, 0, 0, 0, 0, 6);
        mends(Bench.FLAT_33, "100010001", 0, 1, 0, 0, 0, 1, 0, 0, 0, 1);

        Bench.says(30, "-2: there are no TOKENS; -3: by none.");
        Bench.stays(Bench.CHICKEN, "0000", "no tokens", SoundAdvice::mends, -2);
        Bench.stays(Bench.PENNIES, "0000", "no tokens", SoundAdvice::mends, -2);
        for (String advice : new String[] {"1000", "1100", "1110", "2111", "6000"}) {
            Bench.stays(Bench.PENNIES, advice, "by none", SoundAdvice::mends, -3);
        }
    }
}
