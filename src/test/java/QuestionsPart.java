import java.util.Arrays;

/** Promises 7 to 18: what there is. */
final class QuestionsPart {
    private static final int MIN = Bench.MIN;
    private static final int MAX = Bench.MAX;
    private static final int[] NO_PLAYERS_OF_TWO = {-1, 2, 3, MIN, MAX};
    private static final int[] NO_PLAYERS_OF_THREE = {-1, 3, MIN, MAX};

    private QuestionsPart() {
    }

    static void run() {
        profile();
        ofWhat();
        gain();
        sound();
        tight();
        hangs();
        values();
        map();
        corner();
        plans();
        sure();
        left();
    }

    /** A call that asks of a player. */
    private interface OfPlayer {
        long on(SoundAdvice x, int player);
    }

    private static void noSuchPlayer(String call, OfPlayer asked) {
        for (int player : NO_PLAYERS_OF_TWO) {
            Bench.stays(Bench.CHICKEN, "1110", call + "(" + player + ")", x -> asked.on(x, player), -1);
        }
        for (int player : NO_PLAYERS_OF_THREE) {
            Bench.stays(Bench.TRIO, "10000001", call + "(" + player + ")", x -> asked.on(x, player), -1);
        }
        for (int player = 0; player < 2; player++) {
            Bench.due(call + "(" + player + ") of two", asked.on(Bench.of(Bench.CHICKEN), player) >= 0, true);
        }
        Bench.due(call + "(2) of three", asked.on(Bench.of(Bench.TRIO), 2) >= 0, true);
    }

    private static void profile() {
        Bench.says(7, "The PROFILE of ACTIONS (c NONE, if there are two PLAYERS).");
        String[] games = {Bench.FLAT_22, Bench.FLAT_23, Bench.FLAT_32, Bench.FLAT_33};
        for (String game : games) {
            SoundAdvice x = Bench.of(game);
            for (int p = 0; p < x.count(1); p++) {
                Bench.due("profile " + p + " of " + game, x.profile(x.of(p, 0), x.of(p, 1), -1), p);
            }
        }
        SoundAdvice y = Bench.of(Bench.FLAT_222);
        for (int p = 0; p < 8; p++) {
            Bench.due("profile " + p + " of 222", y.profile(p / 4, p / 2 % 2, p % 2), p);
        }

        Bench.says(7, "NONE: no such ones.");
        int[][] none = {{2, 0, -1}, {-1, 0, -1}, {0, 2, -1}, {0, -1, -1}, {0, 0, 0}, {0, 0, 1}, {0, 0, -2}, {0, 0, MIN},
            {0, 0, MAX}, {MIN, 0, -1}, {MAX, 0, -1}, {0, MIN, -1}, {0, MAX, -1}};
        for (int[] a : none) {
            Bench.stays(Bench.CHICKEN, "1110", "profile" + Arrays.toString(a), x -> x.profile(a[0], a[1], a[2]), -1);
        }
        noProfile(Bench.FLAT_23, 2, 0, -1);
        noProfile(Bench.FLAT_23, 0, 3, -1);
        noProfile(Bench.FLAT_32, 3, 0, -1);
        noProfile(Bench.FLAT_32, 0, 2, -1);
        noProfile(Bench.FLAT_33, 3, 0, -1);
        noProfile(Bench.FLAT_33, 0, 3, -1);
        noProfile(Bench.FLAT_222, 0, 0, -1);
        noProfile(Bench.FLAT_222, 0, 0, 2);
        noProfile(Bench.FLAT_222, 0, 2, 0);
        noProfile(Bench.FLAT_222, 2, 0, 0);
        noProfile(Bench.FLAT_222, -1, 0, 0);
        noProfile(Bench.FLAT_222, 0, -1, 0);
    }

    private static void noProfile(String game, int a, int b, int c) {
        Bench.due("profile(" + a + ", " + b + ", " + c + ") of " + game, Bench.of(game).profile(a, b, c), -1);
    }

    private static void ofWhat() {
        Bench.says(8, "Of a PROFILE, what 0 .. 2: the ACTION of that PLAYER, 3: TOKENS, 4 .. 6: 9 more than the PAY"
                + " of PLAYER what - 4.");
        SoundAdvice x = Bench.of("222,asjasjasjasjasjasjasjkml", "00000006");
        int[] due = {1, 1, 1, 6, 10, 12, 11};
        int[] first = {0, 0, 0, 0, 0, 18, 9};
        for (int what = 0; what < due.length; what++) {
            Bench.due("of(7, " + what + ")", x.of(7, what), due[what]);
            Bench.due("of(0, " + what + ")", x.of(0, what), first[what]);
        }
        SoundAdvice y = Bench.of(Bench.STONE, "000000123");
        Bench.due("of(8, 0)", y.of(8, 0), 2);
        Bench.due("of(8, 1)", y.of(8, 1), 2);
        Bench.due("of(8, 3)", y.of(8, 3), 3);
        Bench.due("of(7, 4)", y.of(7, 4), 10);
        Bench.due("of(7, 5)", y.of(7, 5), 8);

        Bench.says(8, "NoSuchElementException: none such, another what.");
        int[][] none = {{4, 0}, {4, 3}, {4, 4}, {-1, 0}, {-1, 3}, {-1, 4}, {MIN, 3}, {MAX, 3}, {0, 2}, {0, 6}, {0, 7},
            {0, -1}, {0, MIN}, {0, MAX}, {3, MIN + 4}, {3, 8}};
        for (int[] a : none) {
            Bench.stays(Bench.CHICKEN, "1110", "of" + Arrays.toString(a), z -> Bench.ofOf(z, a[0], a[1]), Bench.THROWN);
        }
        Bench.stays(Bench.TRIO, "10000001", "of(8, 3)", z -> Bench.ofOf(z, 8, 3), Bench.THROWN);
        Bench.stays(Bench.TRIO, "10000001", "of(7, 7)", z -> Bench.ofOf(z, 7, 7), Bench.THROWN);
        Bench.stays(Bench.TRIO, "10000001", "of(7, 6)", z -> Bench.ofOf(z, 7, 6), 11);
        Bench.stays(Bench.STONE, "100000001", "of(9, 3)", z -> Bench.ofOf(z, 9, 3), Bench.THROWN);
        Bench.stays(Bench.STONE, "100000001", "of(8, 3)", z -> Bench.ofOf(z, 8, 3), 1);
    }

    private static void gain() {
        Bench.says(9, "GAIN of a PLAYER told a who does b: 0; the ROW: that.");
        SoundAdvice x = Bench.of("33,jjjjjjkjjjjjljjjjj", "600000000");
        for (int b = 1; b < 3; b++) {
            Bench.due("gain(0, 0, " + b + ")", x.gain(0, 0, b), 0);
            Bench.row(x, 6 * b);
        }
        // told what no token tells: 0
        Bench.due("gain(0, 2, 1)", x.gain(0, 2, 1), 0);
        Bench.row(x, 0);
        // the greatest and the least that may be: 6 times 18
        SoundAdvice y = Bench.of("22,ajjjsjjj", "6000");
        Bench.due("gain(0, 0, 1)", y.gain(0, 0, 1), 0);
        Bench.row(y, 108);
        Bench.advise(y, "0060");
        Bench.due("gain(0, 1, 0)", y.gain(0, 1, 0), 0);
        Bench.row(y, -108);
        SoundAdvice z = Bench.of(Bench.TRIO, "20000000");
        Bench.due("gain(2, 0, 1)", z.gain(2, 0, 1), 0);
        Bench.row(z, -4);

        Bench.says(9, "NONE: no such ones, a is b.");
        int[][] none = {{0, 0, 0}, {0, 1, 1}, {1, 0, 0}, {2, 0, 1}, {-1, 0, 1}, {MIN, 0, 1}, {MAX, 0, 1}, {0, 2, 0},
            {0, 0, 2}, {0, -1, 0}, {0, 0, -1}, {0, MIN, 0}, {0, 0, MAX}, {0, 2, 2}, {2, 0, 0}};
        for (int[] a : none) {
            Bench.stays(Bench.CHICKEN, "1110", "gain" + Arrays.toString(a), w -> w.gain(a[0], a[1], a[2]), -1);
        }
        Bench.stays(Bench.TRIO, "10000001", "gain(3, 0, 1)", w -> w.gain(3, 0, 1), -1);
        Bench.stays(Bench.TRIO, "10000001", "gain(2, 0, 2)", w -> w.gain(2, 0, 2), -1);
        // actions are of that player: 0 has two, 1 three
        Bench.due("gain(0, 0, 2) of 23", Bench.of(Bench.FLAT_23).gain(0, 0, 2), -1);
        Bench.due("gain(1, 0, 2) of 23", Bench.of(Bench.FLAT_23).gain(1, 0, 2), 0);
        Bench.due("gain(1, 2, 0) of 32", Bench.of(Bench.FLAT_32).gain(1, 2, 0), -1);
        Bench.due("gain(0, 2, 0) of 32", Bench.of(Bench.FLAT_32).gain(0, 2, 0), 0);
        Bench.due("gain(1, 3, 0) of 33", Bench.of(Bench.FLAT_33).gain(1, 3, 0), -1);
    }

    private static void greatest(String game, String advice, int sound, long... row) {
        SoundAdvice x = Bench.of(game, advice);
        Bench.due("sound() of " + game + " " + advice, x.sound(), sound);
        Bench.row(x, row);
    }

    private static void sound() {
        Bench.says(10, "1 if ADVICE is SOUND, else 0; the ROW: the greatest GAIN, PLAYER, told, done of the first"
                + " such one (by PLAYERS, told, done).");
        greatest(Bench.CHICKEN, "0000", 1, 0, 0, 0, 1);
        greatest(Bench.CHICKEN, "1110", 1, -1, 0, 0, 1);
        greatest(Bench.CHICKEN, "0100", 1, 0, 0, 1, 0);
        greatest(Bench.CHICKEN, "1000", 0, 1, 0, 0, 1);
        greatest(Bench.CHICKEN, "0001", 0, 2, 0, 1, 0);
        // equal ones: of both players, of both told, of both done
        greatest(Bench.DILEMMA, "1000", 0, 2, 0, 0, 1);
        greatest("22,jjjkjkjj", "1001", 0, 1, 1, 0, 1);
        greatest("22,jjkjkjjj", "1001", 0, 1, 0, 0, 1);
        greatest("33,jjjjjjkjjjjjkjjjjj", "100000000", 0, 1, 0, 0, 1);
        greatest("33,jjkjjjjjjjjjjjkjjj", "000010000", 0, 1, 0, 1, 0);
        greatest(Bench.STONE, "010000000", 0, 2, 0, 0, 2);
        greatest(Bench.STONE, "000100000", 0, 2, 1, 0, 2);
        greatest(Bench.TRIO, "00000010", 0, 2, 2, 0, 1);
        greatest(Bench.TRIO, "00000100", 0, 2, 1, 0, 1);
        greatest(Bench.TRIO, "00010000", 0, 2, 0, 0, 1);
        greatest("33,ajajajajajajajajsj", "006000000", 0, 108, 0, 0, 2);
        // the first one is looked for anew each time
        SoundAdvice x = Bench.of(Bench.CHICKEN, "0001");
        x.sound();
        Bench.row(x, 2, 0, 1, 0);
        x.lays(3, -1);
        x.sound();
        Bench.row(x, 0, 0, 0, 1);
        SoundAdvice y = Bench.of(Bench.TRIO, "00000010");
        y.sound();
        y.lays(6, -1);
        y.sound();
        Bench.row(y, 0, 0, 0, 1);
    }

    private static void tight() {
        Bench.says(11, "GAINS that are 0, of a PLAYER told what it is told with some TOKEN: how many; the ROW: of"
                + " each 100 times the PLAYER, 10 times what it is told, and what it does, by these numbers.");
        SoundAdvice x = Bench.of(Bench.FLAT_33);
        x.values();
        Bench.due("without tokens", x.tight(), 0);
        Bench.row(x);
        Bench.advise(x, "100010001");
        Bench.due("all", x.tight(), 12);
        Bench.row(x, 1, 2, 10, 12, 20, 21, 101, 102, 110, 112, 120, 121);
        Bench.advise(x, "001000000");
        Bench.due("told 0 and 2", x.tight(), 4);
        Bench.row(x, 1, 2, 120, 121);
        SoundAdvice y = Bench.of(Bench.FLAT_222, "10000001");
        Bench.due("of three", y.tight(), 6);
        Bench.row(y, 1, 10, 101, 110, 201, 210);
        // the gains of 0 are 5 - v and v - 7
        SoundAdvice z = Bench.of(Bench.CHICKEN, "1110");
        long[][] rows = {{}, {1}, {}, {10}, {}};
        for (int v = 4; v <= 8; v++) {
            z.pays(0, 0, v);
            Bench.due("by " + v, z.tight(), rows[v - 4].length);
            Bench.row(z, rows[v - 4]);
        }
    }

    private static void hangs(String game, int player, int most, long profile, long other) {
        SoundAdvice x = Bench.of(game);
        Bench.due("hangs(" + player + ") of " + game, x.hangs(player), most);
        Bench.row(x, profile, other);
    }

    private static void hangs() {
        Bench.says(12, "By how much all PAYS of a PLAYER differ between PROFILES that differ by what another one"
                + " does alone, at most: it; the ROW: the first such PROFILE (the lesser of both), that other PLAYER"
                + " (the first).");
        hangs(Bench.CHICKEN, 0, 7, 2, 1);
        hangs(Bench.CHICKEN, 1, 7, 1, 0);
        // nothing hangs: the first pair
        hangs(Bench.FLAT_22, 0, 0, 0, 1);
        hangs(Bench.FLAT_22, 1, 0, 0, 0);
        hangs(Bench.FLAT_222, 0, 0, 0, 1);
        hangs(Bench.FLAT_222, 1, 0, 0, 0);
        hangs(Bench.FLAT_222, 2, 0, 0, 0);
        // by its own action alone
        hangs("22,ajajsjsj", 0, 0, 0, 1);
        hangs("22,jajsjajs", 1, 0, 0, 0);
        // the most that may be, and of two such the first
        hangs("22,ajsjsjaj", 0, 18, 0, 1);
        hangs("22,jjjjsjaj", 0, 18, 2, 1);
        hangs("23,ajjjsjjjjjjj", 0, 18, 0, 1);
        hangs("23,jjajsjjjjjjj", 0, 18, 1, 1);
        hangs("32,jajjjjjjjsjj", 1, 18, 0, 0);
        hangs("33,jjjjjjjjjjjajjjjjs", 1, 18, 5, 0);
        // 5 and -5 lie 10 from one another, but by what two do
        hangs("222,jjjojjejjjjjjjjjjjjjjjjj", 0, 5, 0, 1);
        hangs("222,jjjojjjjjjjjjjjjjjjjjjjj", 0, 5, 0, 2);
        hangs("222,jjjjjjjjjjjjjjjjjjojjjjj", 0, 5, 4, 1);
        hangs("222,jjjjjjjjjjjjjjjjjjjjjojj", 0, 5, 5, 1);

        Bench.says(12, "NONE: no such PLAYER.");
        noSuchPlayer("hangs", SoundAdvice::hangs);
    }

    private static void values() {
        Bench.says(13, "T; the ROW: VALUES of PLAYERS 0, 1, .., WELFARE, FLOOR.");
        SoundAdvice x = Bench.of("222,assaasjjjjjjjjjjjjjjjjjj");
        Bench.due("without tokens", x.values(), 0);
        Bench.row(x, 0, 0, 0, 0, 0);
        Bench.advise(x, "60000000");
        Bench.due("of six", x.values(), 6);
        Bench.row(x, -54, 54, 54, 54, -54);
        Bench.advise(x, "12000000");
        Bench.due("of three", x.values(), 3);
        Bench.row(x, -27, -9, 27, -9, -27);
        SoundAdvice y = Bench.of("33,ssssssssssssssssss", "000000006");
        Bench.due("the most of two", y.values(), 6);
        Bench.row(y, 54, 54, 108, 54);
        SoundAdvice z = Bench.of(Bench.CHICKEN, "0010");
        Bench.due("of one", z.values(), 1);
        Bench.row(z, 7, 2, 9, 2);
    }

    private static void map(String game, String advice, int player, int same, long... row) {
        SoundAdvice x = Bench.of(game, advice);
        Bench.due("map(" + player + ") of " + game + " " + advice, x.map(player), same);
        Bench.row(x, row);
    }

    private static void map() {
        Bench.says(14, "The map (what is done for each ACTION that is told) by which a PLAYER's GAINS together are"
                + " most (of equal ones that of the least ACTION at the first unlike place): how many ACTIONS are"
                + " done as told; the ROW: what is done for each, these GAINS together.");
        map(Bench.CHICKEN, "1110", 0, 2, 0, 1, 0);
        map(Bench.CHICKEN, "3000", 0, 0, 1, 0, 3);
        // told 1 without a token: all are equal, the least
        map(Bench.CHICKEN, "0100", 0, 1, 0, 0, 0);
        map(Bench.CHICKEN, "0000", 1, 1, 0, 0, 0);
        map(Bench.FLAT_33, "111111000", 1, 1, 0, 0, 0, 0);
        map(Bench.STONE, "111000000", 1, 1, 1, 1, 1, 3);
        map(Bench.STONE, "100010001", 0, 0, 1, 2, 0, 3);
        // as told is better than both others
        map("33,jjjjjjijjkjjijjjjk", "100000000", 0, 1, 0, 0, 0, 0);
        // told 0: 1 and 2 give 5 both
        map("33,jjjjjjojjjjjojjjjj", "100000000", 0, 0, 1, 0, 0, 5);
        map("33,jjjjjjnjjjjjojjjjj", "100000000", 0, 0, 2, 0, 0, 5);
        map(Bench.TRIO, "00000010", 2, 0, 1, 0, 2);

        Bench.says(14, "NONE: no such PLAYER.");
        noSuchPlayer("map", SoundAdvice::map);
    }

    private static void corner() {
        Bench.says(15, "1 if ADVICE is a CORNER, else 0; the ROW: 1 if it is APART, else 0.");
        String[] games = {Bench.CHICKEN, Bench.CHICKEN, Bench.CHICKEN, Bench.PENNIES, Bench.FLAT_22, Bench.FLAT_22,
            Bench.FLAT_222, Bench.FLAT_222};
        String[] advice = {"1110", "0200", "0110", "1111", "1111", "0600", "10000001", "00000100"};
        int[][] due = {{1, 0}, {1, 1}, {0, 0}, {1, 1}, {0, 1}, {1, 1}, {0, 0}, {1, 1}};
        for (int k = 0; k < games.length; k++) {
            SoundAdvice x = Bench.of(games[k], advice[k]);
            Bench.due("corner() of " + games[k] + " " + advice[k], x.corner(), due[k][0]);
            Bench.row(x, due[k][1]);
        }

        Bench.says(15, "-2: it is not SOUND, or has no TOKENS.");
        Bench.stays(Bench.CHICKEN, "1000", "not sound", SoundAdvice::corner, -2);
        Bench.stays(Bench.CHICKEN, "2111", "not sound", SoundAdvice::corner, -2);
        Bench.stays(Bench.TRIO, "01000000", "not sound", SoundAdvice::corner, -2);
        Bench.stays(Bench.CHICKEN, "0000", "no tokens", SoundAdvice::corner, -2);
        Bench.stays(Bench.STONE, "000000000", "no tokens", SoundAdvice::corner, -2);
        Bench.due("one token", Bench.of(Bench.CHICKEN, "0100").corner(), 1);
    }

    private static void plans() {
        Bench.says(16, "PLANS: how many; the ROW: they, each with its WELFARE.");
        SoundAdvice x = Bench.of(Bench.PENNIES);
        x.values();
        Bench.due("none", x.plans(), 0);
        Bench.row(x);
        SoundAdvice y = Bench.of("33,aaaaaaaaaaaaaaaaaa");
        Bench.due("all", y.plans(), 9);
        Bench.row(y, 0, -18, 1, -18, 2, -18, 3, -18, 4, -18, 5, -18, 6, -18, 7, -18, 8, -18);
        SoundAdvice z = Bench.of(Bench.CHICKEN);
        Bench.due("two", z.plans(), 2);
        Bench.row(z, 1, 9, 2, 9);
        // an equal pay elsewhere is no matter, one more is
        SoundAdvice w = Bench.of("22,jjjjjjjj");
        w.pays(0, 2, 1);
        Bench.due("three", w.plans(), 3);
        Bench.row(w, 1, 0, 2, 1, 3, 0);
        SoundAdvice v = Bench.of("222,sssjjjjjjjjjjjjjjjjjjsss");
        Bench.due("of three", v.plans(), 2);
        Bench.row(v, 0, 27, 7, 27);
    }

    private static void sure(String game, int player, int action, long most) {
        SoundAdvice x = Bench.of(game);
        Bench.due("sure(" + player + ") of " + game, x.sure(player), action);
        Bench.row(x, most);
    }

    private static void sure() {
        Bench.says(17, "SURE of a PLAYER: the ACTION (of equal ones the least); the ROW: SURE.");
        sure(Bench.CHICKEN, 0, 0, 2);
        sure(Bench.DILEMMA, 1, 1, 1);
        sure(Bench.FLAT_33, 1, 0, 0);
        sure("22,ssssssss", 0, 0, 9);
        sure("22,aaaaaaaa", 1, 0, -9);
        // of three the last, of two equal ones the first, one more is more
        sure("33,ajajajbjbjbjcjcjcj", 0, 2, -7);
        sure("33,ajajajcjcjcjcjcjcj", 0, 1, -7);
        sure("33,cjcjcjcjcjcjcjcjcj", 0, 0, -7);
        sure("33,cjcjcjdjdjcjdjdjdj", 0, 2, -6);
        sure("222,jjjjjjjjjjjjjjjjjajjjjjk", 2, 0, 0);
        sure("222,jjajjkjjjjjkjjjjjkjjjjjk", 2, 1, 1);

        Bench.says(17, "NONE: no such PLAYER.");
        noSuchPlayer("sure", SoundAdvice::sure);
    }

    private static void left() {
        Bench.says(18, "LEFT: how many ACTIONS of all PLAYERS; the ROW: LEFT of each PLAYER (bits), then those taken"
                + " out, one behind another (10 times the PLAYER, and the ACTION).");
        String[] games = {Bench.CHICKEN, Bench.DILEMMA, Bench.FLAT_32, "33,jjjkjlkjkkklljlkll",
            "222,jjjjjkjkjjkkkjjkjkkkjkkk", Bench.STONE, "23,jljkjjjljkjj"};
        int[] many = {4, 2, 5, 2, 3, 6, 3};
        long[][] rows = {{3, 3}, {2, 2, 0, 10}, {7, 3}, {4, 4, 0, 1, 10, 11}, {2, 2, 2, 0, 10, 20}, {7, 7},
            {3, 1, 11, 12}};
        for (int k = 0; k < games.length; k++) {
            SoundAdvice x = Bench.of(games[k]);
            for (int time = 0; time < 2; time++) {
                Bench.due("left() of " + games[k], x.left(), many[k]);
                Bench.row(x, rows[k]);
            }
        }
    }
}
