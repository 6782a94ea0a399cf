import java.util.Arrays;

/** Promises 31 to 38: changes. */
final class ChangesPart {
    private static final int MIN = Bench.MIN;
    private static final int MAX = Bench.MAX;

    private ChangesPart() {
    }

    static void run() {
        pays();
        scales();
        scalesFaults();
        moves();
        lays();
        takes();
        day();
        dayStops();
        dayFaults();
        undo();
        undoEach();
        undoNone();
        years();
    }

    private static void pays() {
        Bench.says(31, "PAY of a PLAYER in a PROFILE becomes v (-9 .. 9): 9 more than it was.");
        SoundAdvice x = Bench.of(Bench.CHICKEN);
        Bench.due("to 9", x.pays(0, 0, 9), 15);
        Bench.due("to -9", x.pays(0, 0, -9), 18);
        Bench.due("from -9", x.pays(0, 0, 8), 0);
        Bench.due("the last", x.pays(1, 3, -1), 9);
        Bench.pays(x, 0, "rlqj");
        Bench.pays(x, 1, "pqli");
        Bench.due("what can be undone", x.count(7), 5);
        SoundAdvice y = Bench.of(Bench.TRIO);
        Bench.due("of three", y.pays(2, 7, 3), 11);
        Bench.pays(y, 2, "ljjjjjjm");
        Bench.pays(y, 1, "ljjjjjjl");

        Bench.says(31, "-2: it is so; NONE: others.");
        Bench.stays(Bench.CHICKEN, "1110", "pays(0, 0, 6)", z -> z.pays(0, 0, 6), -2);
        Bench.stays("22,ajjjjjjs", "1110", "pays(0, 0, -9)", z -> z.pays(0, 0, -9), -2);
        Bench.stays("22,ajjjjjjs", "1110", "pays(1, 3, 9)", z -> z.pays(1, 3, 9), -2);
        int[][] none = {{2, 0, 0}, {-1, 0, 0}, {MIN, 0, 0}, {MAX, 0, 0}, {0, 4, 0}, {0, -1, 0}, {0, MIN, 0},
            {0, MAX, 0}, {0, 0, 10}, {0, 0, -10}, {0, 0, MIN}, {0, 0, MAX}};
        for (int[] a : none) {
            Bench.stays(Bench.CHICKEN, "1110", "pays" + Arrays.toString(a), z -> z.pays(a[0], a[1], a[2]), -1);
        }
        Bench.stays(Bench.TRIO, "10000000", "pays(3, 0, 0)", z -> z.pays(3, 0, 0), -1);
        Bench.stays(Bench.TRIO, "10000000", "pays(2, 8, 0)", z -> z.pays(2, 8, 0), -1);
        Bench.stays(Bench.STONE, "100000000", "pays(0, 9, 0)", z -> z.pays(0, 9, 0), -1);
    }

    private static void scales() {
        Bench.says(32, "PAYS of a PLAYER become by times each and add: 0.");
        SoundAdvice x = Bench.of("22,ajbjjjsk");
        Bench.due("the same", x.scales(0, 1, 0), 0);
        Bench.due("what can be undone", x.count(7), 2);
        Bench.pays(x, 0, "abjs");
        Bench.due("turned", x.scales(0, -1, 0), 0);
        Bench.pays(x, 0, "srja");
        Bench.due("to 9", x.scales(0, 0, 9), 0);
        Bench.pays(x, 0, "ssss");
        Bench.due("to -9", x.scales(0, 2, -27), 0);
        Bench.pays(x, 0, "aaaa");
        Bench.due("to 9", x.scales(0, -2, -9), 0);
        Bench.pays(x, 0, "ssss");
        Bench.pays(x, 1, "jjjk");
        Bench.due("the other one", x.scales(1, 9, 0), 0);
        Bench.pays(x, 1, "jjjs");
        Bench.due("of three", Bench.of(Bench.TRIO).scales(2, 4, 1), 0);
        // the greatest numbers on the way that an int holds
        SoundAdvice y = Bench.of("22,kjkjkjkj");
        Bench.due("by the greatest int", y.scales(0, MAX, -MAX), 0);
        Bench.pays(y, 0, "jjjj");
        Bench.due("0 by the least int", y.scales(0, MIN, 1), 0);
        Bench.pays(y, 0, "kkkk");
        Bench.due("-1 by the greatest", y.scales(0, -MAX, MAX), 0);
        Bench.pays(y, 0, "jjjj");
    }

    private static void tooGreat(String game, int by, int add, long profile, long why) {
        SoundAdvice x = Bench.rich(game, "0000", 8);
        String pays = "" + game.charAt(3) + game.charAt(5) + game.charAt(7) + game.charAt(9);
        Bench.due("scales(0, " + by + ", " + add + ") of " + game, x.scales(0, by, add), -4);
        Bench.row(x, profile, why);
        Bench.pays(x, 0, pays);
        Bench.due("what can be undone", x.count(7), 8);
        Bench.due("signs", x.count(9), 15);
    }

    private static void scalesFaults() {
        Bench.says(32, "-4: one would not be -9 .. 9, or what comes on the way is too great for an int (the ROW: the"
                + " first such PROFILE, 1 if an int is too small for it, else 0);");
        tooGreat("22,jjjjjjjj", 0, 10, 0, 0);
        tooGreat("22,jjjjjjjj", 0, -10, 0, 0);
        tooGreat("22,jjjjjjjj", 0, MAX, 0, 0);
        tooGreat("22,jjjjjjjj", 0, MIN, 0, 0);
        // the first of several, the last one
        tooGreat("22,jjnjojnj", 2, 0, 2, 0);
        tooGreat("22,jjnjojoj", 2, 0, 2, 0);
        tooGreat("22,jjjjjjoj", 2, 0, 3, 0);
        tooGreat("22,jjjjjjoj", 1, 5, 3, 0);
        tooGreat("22,jjjjjjej", 1, -5, 3, 0);
        // 2 times 2^30 is one too great, -2 times it is not
        tooGreat("22,jjljjjjj", 1 << 30, 0, 1, 1);
        tooGreat("22,jjhjjjjj", 1 << 30, 0, 1, 0);
        tooGreat("22,jjhjjjjj", (1 << 30) + 1, 0, 1, 1);
        tooGreat("22,jjljjjjj", (1 << 30) - 1, 0, 1, 0);
        // on the way too great, though the sum is not
        tooGreat("22,ljljljlj", 1 << 30, MIN, 0, 1);
        tooGreat("22,ijijijij", MIN, MIN, 0, 1);
        // the product is not, the sum is
        tooGreat("22,kjkjkjkj", MAX, 0, 0, 0);
        tooGreat("22,kjkjkjkj", MAX, 1, 0, 1);
        tooGreat("22,kjkjkjkj", MIN, 0, 0, 0);
        tooGreat("22,kjkjkjkj", MIN, -1, 0, 1);
        tooGreat("22,kjkjkjkj", 1, MAX, 0, 1);
        tooGreat("22,kjkjkjkj", 1, MAX - 1, 0, 0);
        tooGreat("22,ijijijij", 1, MIN, 0, 1);
        tooGreat("22,ijijijij", 1, MIN + 1, 0, 0);
        // an int is large enough for the first one that can't be
        tooGreat("22,jjkjljlj", 1 << 30, 0, 1, 0);

        Bench.says(32, "NONE: no such PLAYER.");
        for (int player : new int[] {2, -1, MIN, MAX}) {
            Bench.stays(Bench.CHICKEN, "1110", "scales(" + player + ")", x -> x.scales(player, 1, 0), -1);
            Bench.stays(Bench.CHICKEN, "1110", "scales(" + player + ")", x -> x.scales(player, MAX, MAX), -1);
        }
        Bench.stays(Bench.TRIO, "10000000", "scales(3)", x -> x.scales(3, 1, 0), -1);
    }

    private static void moves() {
        Bench.says(33, "A TOKEN goes from a PROFILE to another one: TOKENS that there are on that.");
        SoundAdvice x = Bench.of(Bench.CHICKEN, "2004");
        Bench.due("moves(0, 3)", x.moves(0, 3), 5);
        Bench.due("the last of it", x.moves(0, 3), 6);
        Bench.tokens(x, "0006");
        Bench.due("moves(3, 0)", x.moves(3, 0), 1);
        Bench.tokens(x, "1005");
        Bench.due("what can be undone", x.count(7), 5);
        Bench.due("of 9", Bench.of(Bench.STONE, "100000000").moves(0, 8), 1);

        Bench.says(33, "-3: there is none; NONE: no such ones, both are one.");
        Bench.stays(Bench.CHICKEN, "1110", "moves(3, 0)", y -> y.moves(3, 0), -3);
        Bench.stays(Bench.CHICKEN, "0000", "moves(0, 1)", y -> y.moves(0, 1), -3);
        int[][] none = {{0, 0}, {3, 3}, {4, 0}, {-1, 0}, {0, 4}, {0, -1}, {3, 4}, {MIN, 0}, {MAX, 0}, {0, MIN},
            {0, MAX}, {4, 4}, {-1, -1}};
        for (int[] a : none) {
            Bench.stays(Bench.CHICKEN, "1110", "moves" + Arrays.toString(a), y -> y.moves(a[0], a[1]), -1);
        }
        Bench.stays(Bench.STONE, "100000000", "moves(0, 9)", y -> y.moves(0, 9), -1);
        Bench.stays(Bench.TRIO, "10000000", "moves(0, 8)", y -> y.moves(0, 8), -1);
    }

    private static void lays() {
        Bench.says(34, "TOKENS come to a PROFILE (n above 0), or go (below): how many there are on it.");
        SoundAdvice x = Bench.of(Bench.CHICKEN, "1000");
        Bench.due("one", x.lays(3, 1), 1);
        Bench.due("to 6 together", x.lays(3, 4), 5);
        Bench.due("one less", x.lays(3, -1), 4);
        Bench.due("all go", x.lays(3, -4), 0);
        Bench.tokens(x, "1000");
        Bench.due("the last one goes", x.lays(0, -1), 0);
        Bench.due("six at once", x.lays(2, 6), 6);
        Bench.due("six go", x.lays(2, -6), 0);
        Bench.due("what can be undone", x.count(7), 8);

        Bench.says(34, "-3: there would be fewer than 0, or T above 6; NONE: no such PROFILE, n is 0.");
        Bench.due("lays(0, 3)", Bench.of(Bench.CHICKEN, "1110").lays(0, 3), 4);
        Bench.due("lays(0, -1)", Bench.of(Bench.CHICKEN, "1110").lays(0, -1), 0);
        int[][] many = {{0, 4}, {3, 4}, {0, MAX}, {0, -2}, {3, -1}, {0, MIN}, {0, 7}, {0, MIN + 1}, {3, MAX - 1}};
        for (int[] a : many) {
            Bench.stays(Bench.CHICKEN, "1110", "lays" + Arrays.toString(a), y -> y.lays(a[0], a[1]), -3);
        }
        Bench.stays(Bench.CHICKEN, "6000", "lays(1, 1)", y -> y.lays(1, 1), -3);
        Bench.stays(Bench.CHICKEN, "6000", "lays(0, -7)", y -> y.lays(0, -7), -3);
        Bench.stays(Bench.CHICKEN, "0000", "lays(0, 7)", y -> y.lays(0, 7), -3);
        int[][] none = {{0, 0}, {4, 1}, {-1, 1}, {MIN, 1}, {MAX, 1}, {4, 0}, {4, -1}, {-1, 7}};
        for (int[] a : none) {
            Bench.stays(Bench.CHICKEN, "1110", "lays" + Arrays.toString(a), y -> y.lays(a[0], a[1]), -1);
        }
        Bench.stays(Bench.TRIO, "10000000", "lays(8, 1)", y -> y.lays(8, 1), -1);
        Bench.stays(Bench.STONE, "100000000", "lays(9, 1)", y -> y.lays(9, 1), -1);
        Bench.due("lays(8, 1)", Bench.of(Bench.STONE).lays(8, 1), 1);
    }

    private static void takes() {
        Bench.says(35, "ADVICE becomes the best of the LIST of n (as best()): 1000 and its WELFARE.");
        SoundAdvice x = Bench.of(Bench.CHICKEN, "6000");
        Bench.due("takes(3, 0)", x.takes(3, 0), 1030);
        Bench.tokens(x, "1110");
        Bench.due("takes(1, 0)", x.takes(1, 0), 1009);
        Bench.tokens(x, "0100");
        Bench.due("takes(6, 0)", x.takes(6, 0), 1060);
        // 2220 has as much
        Bench.tokens(x, "2310");
        Bench.due("what can be undone", x.count(7), 5);
        SoundAdvice last = Bench.of("33,jjjkjlkjkkklljlkll", "111111000");
        Bench.due("the last profile", last.takes(6, 0), 1024);
        Bench.tokens(last, "000000006");
        SoundAdvice low = Bench.of("33,aaaaaaaaaaaaaaaaaa");
        Bench.due("the least", low.takes(6, 0), 892);
        Bench.due("the least of three", Bench.of("222,aaaaaaaaaaaaaaaaaaaaaaaa").takes(6, 5), 838);
        Bench.due("the most", Bench.of("222,ssssssssssssssssssssssss").takes(6, 7), 1162);
        for (int what : new int[] {0, 1, 2, 3, 4, 6, 7}) {
            SoundAdvice y = Bench.of(Bench.CHICKEN);
            y.best(3, what);
            long[] best = Bench.rowOf(y);
            y.takes(3, what);
            for (int p = 0; p < 4; p++) {
                Bench.due("as best(3, " + what + ")", y.of(p, 3), best[p]);
            }
            Bench.row(y, best);
        }

        Bench.says(35, "-2: there is none, or it is that already; NONE: as best().");
        Bench.stays(Bench.PENNIES, "1000", "there is none", y -> y.takes(3, 0), -2);
        Bench.stays(Bench.PENNIES, "1111", "that already", y -> y.takes(4, 0), -2);
        Bench.stays(Bench.CHICKEN, "1110", "that already", y -> y.takes(3, 7), -2);
        Bench.stays(Bench.FLAT_33, "600000000", "that already", y -> y.takes(6, 6), -2);
        int[][] none = {{3, 5}, {3, 8}, {3, -1}, {3, MIN}, {3, MAX}, {0, 0}, {7, 0}, {-1, 0}, {MIN, 0}, {MAX, 0}};
        for (int[] a : none) {
            Bench.stays(Bench.CHICKEN, "1110", "takes" + Arrays.toString(a), y -> y.takes(a[0], a[1]), -1);
        }
        Bench.stays(Bench.PENNIES, "1111", "takes(4, 5)", y -> y.takes(4, 5), -1);
    }

    private static void day() {
        Bench.says(36, "THE TEXT tells A DAY (an empty one: nothing), ACTS one behind another, without signs"
                + " between: p, a digit (PLAYER), a digit (PROFILE), a letter a .. s (pays()); m, two digits"
                + " (moves()); l, a digit (PROFILE), + or -, a digit (lays()); t, two digits (takes()):");
        Bench.Made ready = () -> {
            SoundAdvice x = Bench.of(Bench.CHICKEN, "1000");
            x.day();
            return x;
        };
        Bench.stays(ready, "an empty day", SoundAdvice::day, 0);
        Bench.row(ready.make(), 0, 0);
        SoundAdvice y = Bench.of(Bench.CHICKEN);
        Bench.due("an empty day", y.day(), 0);
        Bench.row(y, 0, 1);
        Bench.due("what can be undone", y.count(7), 1);
        Bench.due("all kinds", Bench.live(y, "p00ap13sl0+3m03l0-1t30"), 6);
        Bench.pays(y, 0, "alqj");
        Bench.pays(y, 1, "pqls");
        Bench.due("twenty acts", Bench.live(Bench.of(Bench.CHICKEN), "l0+1l0-1".repeat(10)), 20);
        Bench.due("twenty-six acts", Bench.live(Bench.of(Bench.CHICKEN, "1000"), "m01m10".repeat(13)), 26);

        Bench.says(36, "they are done one by one, till one can't be (it answers below 0): how many were done; the"
                + " ROW: 1 if one could not be, else 0, 1 if ADVICE is SOUND then, else 0.");
        stops("l0+1", 1, 0, 0, "1000");
        stops("l1+1", 1, 0, 1, "0100");
        stops("l1+6l0+1l0+1", 1, 1, 1, "0600");
        stops("l1+6l1-7", 1, 1, 1, "0600");
        stops("l1+6l1-6l0+1", 3, 0, 0, "1000");
        stops("m01", 0, 1, 1, "0000");
        stops("l0+1m01m01l0+1", 2, 1, 1, "0100");
        stops("l0+0", 0, 1, 1, "0000");
        stops("l0-0", 0, 1, 1, "0000");
        stops("l4+1", 0, 1, 1, "0000");
        stops("l9+1", 0, 1, 1, "0000");
        stops("l0+7", 0, 1, 1, "0000");
        stops("m04", 0, 1, 1, "0000");
        stops("l0+1m00", 1, 1, 0, "1000");
        stops("p20a", 0, 1, 1, "0000");
        stops("p04a", 0, 1, 1, "0000");
        stops("p00p", 0, 1, 1, "0000");
        stops("p00qp00q", 1, 1, 1, "0000");
        stops("t30", 1, 0, 1, "1110");
        stops("t30t37", 1, 1, 1, "1110");
        stops("t00", 0, 1, 1, "0000");
        stops("t70", 0, 1, 1, "0000");
        stops("t35", 0, 1, 1, "0000");
        stops("t38", 0, 1, 1, "0000");
    }

    private static void stops(String text, int done, long stuck, long sound, String tokens) {
        SoundAdvice x = Bench.of(Bench.CHICKEN);
        Bench.due("day of " + text, Bench.live(x, text), done);
        Bench.row(x, stuck, sound);
        Bench.tokens(x, tokens);
        Bench.due("what can be undone", x.count(7), done > 0 ? 2 : 1);
        Bench.due("signs", x.count(9), 0);
    }

    private static void dayStops() {
        Bench.says(36, "how many were done;");
        // what can't be done leaves all but the row and the text, as it is told
        Bench.Made stuck = () -> {
            SoundAdvice x = Bench.rich(Bench.CHICKEN, "1110", 10);
            Bench.live(x, "m30m01");
            return x;
        };
        Bench.stays(stuck, "stuck again", x -> Bench.live(x, "l0+4l0+1"), 0);
        Bench.due("signs", stuck.make().count(9), 0);
        Bench.due("what can be undone", stuck.make().count(7), 8);
        Bench.row(stuck.make(), 1, 1);
    }

    private static void dayFaults() {
        Bench.says(36, "-1 - p: the sign at p can't stand there (its end, if it ends too early); nothing is done"
                + " then.");
        String[] texts = {"x", "P", " ", "0", "pa", "p0a", "p00t", "p00`", "p000", "p00A", "ma", "m0a", "m+1",
            "la", "l0*1", "l00", "l0+x", "l0++", "ta", "t0t", "t3+", "l0+1x", "l0+1 m01", "l0+1,m01",
            "m01l0-1" + (char) 0, (char) 237 + "01", "p/0a", "p:0a", "p0/a", "p0:a", "m/0", "m0:", "l/+1", "l:+1",
            "l0,1", "l0.1", "l0+/", "l0-:", "t/1", "t1:"};
        int[] answers = {-1, -1, -1, -1, -2, -3, -4, -4, -4, -4, -2, -3, -2,
            -2, -3, -3, -4, -4, -2, -3, -3, -5, -5, -5,
            -8, -1, -2, -2, -3, -3, -2, -3, -2, -2,
            -3, -3, -4, -4, -2, -3};
        for (int k = 0; k < texts.length; k++) {
            Bench.staysReading(Bench.CHICKEN, "1110", texts[k], SoundAdvice::day, answers[k]);
        }
        String[] early = {"p", "p0", "p00", "m", "m0", "l", "l0", "l0+", "t", "t3", "l0+1p", "l0+1m0", "m01m01l0-"};
        for (String text : early) {
            Bench.staysReading(Bench.CHICKEN, "1110", text, SoundAdvice::day, -1 - text.length());
        }
        // the sign is looked at first, though the act ahead of it can't be done
        Bench.staysReading(Bench.CHICKEN, "1110", "m30x", SoundAdvice::day, -4);
        Bench.staysReading(Bench.CHICKEN, "1110", "p99ap9", SoundAdvice::day, -7);
        // the edges of what can stand
        Bench.due("9s", Bench.live(Bench.of(Bench.CHICKEN), "p99sm99l9+9t99"), 0);
        Bench.due("0s", Bench.live(Bench.of(Bench.CHICKEN), "p00al0+1m00"), 2);
    }

    private static SoundAdvice changed(int changes) {
        SoundAdvice x = new SoundAdvice();
        for (int k = 1; k <= changes; k++) {
            x.pays(0, 0, k % 10);
        }
        return x;
    }

    private static void undo() {
        Bench.says(37, "The latest game(), advice(), pays(), scales(), moves(), lays(), takes(), day() (of 8 that"
                + " are kept, the latest ones; such as were done; day() of which one ACT was done, as one) is undone"
                + " (PAYS, TOKENS, all that 1. tells of a GAME are as ahead of it): how many are left that can be.");
        for (int changes = 1; changes <= 40; changes++) {
            SoundAdvice x = changed(changes);
            int kept = Math.min(8, changes);
            Bench.due("what can be undone", x.count(7), kept);
            for (int k = 1; k <= kept; k++) {
                Bench.due("undo() " + k + " of " + changes, x.undo(), kept - k);
                Bench.due("pay", x.of(0, 4), 9 + (changes - k) % 10);
            }
            Bench.due("no more", x.undo(), -1);
            Bench.due("pay", x.of(0, 4), 9 + (changes - kept) % 10);
        }
        // undone ones are no more counted, new ones come behind
        SoundAdvice y = changed(9);
        y.undo();
        y.undo();
        y.pays(0, 1, 3);
        y.lays(0, 1);
        y.lays(0, 1);
        Bench.due("what can be undone", y.count(7), 8);
        int[] left = {7, 6, 5, 4, 3, 2, 1, 0};
        for (int want : left) {
            Bench.due("undo()", y.undo(), want);
        }
        Bench.pays(y, 0, "ljjj");
        // such as were not done do not count
        SoundAdvice z = changed(9);
        z.pays(0, 0, 9);
        z.pays(0, 0, 10);
        z.scales(0, 2, 0);
        z.moves(0, 1);
        z.lays(0, 7);
        z.takes(7, 0);
        Bench.play(z, "22,");
        Bench.advise(z, "7");
        Bench.live(z, "");
        Bench.live(z, "m01");
        Bench.live(z, "m0");
        z.sheet(1, 0, 2, 1, 5, 0);
        z.years(1, 1);
        z.keep(0);
        Bench.due("what can be undone", z.count(7), 8);
        Bench.due("undo()", z.undo(), 7);
        Bench.due("pay", z.of(0, 4), 17);
    }

    /** A change is done on a game with advice, and undone: all is as ahead of it. */
    private static void undone(String told, Bench.Call change) {
        Bench.Made changedAndBack = () -> {
            SoundAdvice x = Bench.rich(Bench.CHICKEN, "1110", 4);
            x.end(0);
            return x;
        };
        Bench.stays(changedAndBack, told, x -> {
            long before = x.count(7);
            if (change.on(x) < 0 || x.count(7) != before + 1) {
                return -9;
            }
            long left = x.undo();
            x.values();
            return left;
        }, 4);
    }

    private static void undoEach() {
        Bench.says(37, "(PAYS, TOKENS, all that 1. tells of a GAME are as ahead of it)");
        undone("game()", x -> Bench.play(x, Bench.STONE));
        undone("game() of three", x -> Bench.play(x, Bench.TRIO));
        undone("advice()", x -> Bench.advise(x, "0006"));
        undone("pays()", x -> x.pays(1, 3, 9));
        undone("scales()", x -> x.scales(1, -1, 0));
        undone("moves()", x -> x.moves(0, 3));
        undone("lays()", x -> x.lays(3, 3));
        undone("takes()", x -> x.takes(6, 1));
        undone("day()", x -> Bench.live(x, "p00am03l1+1t61"));
        undone("day() that was stuck", x -> Bench.live(x, "p00am03m03m03"));
        undone("day() of one act", x -> Bench.live(x, "p00a"));
        undone("advice() as it was", x -> Bench.advise(x, "1110"));
        undone("scales() as it was", x -> x.scales(0, 1, 0));
        // a greater game and a smaller one
        SoundAdvice y = Bench.of(Bench.TRIO, "10000005");
        Bench.play(y, Bench.CHICKEN);
        y.lays(0, 6);
        Bench.due("undo()", y.undo(), 3);
        Bench.due("undo()", y.undo(), 2);
        Bench.tokens(y, "10000005");
        Bench.due("players", y.count(0), 3);
        Bench.due("actions of 2", y.count(5), 2);
        Bench.pays(y, 2, "ljjjjjjl");
        Bench.due("profile(1, 1, 1)", y.profile(1, 1, 1), 7);
    }

    private static void undoNone() {
        Bench.says(37, "Refused: none.");
        Bench.stays(SoundAdvice::new, "undo()", SoundAdvice::undo, -1);
        Bench.Made used = () -> {
            SoundAdvice x = changed(1);
            x.values();
            x.undo();
            Signs.tell(x, "l0+1");
            return x;
        };
        Bench.stays(used, "undo()", SoundAdvice::undo, -1);

        Bench.says(37, "(again() forgets them, if it is not refused.)");
        for (int changes : new int[] {0, 1, 8, 9}) {
            SoundAdvice x = changed(changes);
            x.keep(1);
            Bench.due("refused", x.again(0), false);
            Bench.due("refused", x.again(2), false);
            Bench.due("what can be undone", x.count(7), Math.min(8, changes));
            Bench.due("again(1)", x.again(1), true);
            Bench.due("what can be undone", x.count(7), 0);
            Bench.due("undo()", x.undo(), -1);
            Bench.due("pay", x.of(0, 4), 9 + changes);
            x.lays(0, 1);
            Bench.due("undo()", x.undo(), 0);
            Bench.tokens(x, "0000");
            Bench.due("pay", x.of(0, 4), 9 + changes);
        }
    }

    /** years() by draws that are made here with longs, done by pays(). */
    static void yearsAgain(String game, String advice, int seed, int n) {
        SoundAdvice x = Bench.of(game, advice);
        SoundAdvice y = Bench.of(game, advice);
        long r = seed & 0xffffffffL;
        int[] of = {y.count(0), y.count(1), 19};
        for (int year = 0; year < n; year++) {
            int[] drawn = new int[3];
            for (int k = 0; k < 3; k++) {
                r = (r * 1103515245L + 12345L) & 0xffffffffL;
                drawn[k] = (int) (r / 65536 % of[k]);
            }
            y.pays(drawn[0], drawn[1], drawn[2] - 9);
        }
        String told = "years(" + seed + ", " + n + ") of " + game;
        Bench.due(told, x.years(seed, n), y.plans());
        Bench.row(x, y.sound(), y.left());
    }

    private static void years() {
        Bench.says(38, "n times (1 .. 30; it is forgotten): a DRAW of PLAYERS, a DRAW of P, a DRAW of 19: that PAY"
                + " becomes 9 less than the last: PLANS then; the ROW: 1 if ADVICE is SOUND then, else 0, LEFT then.");
        // draws by seed 1: 16838 % 2, 38526 % 4, 10113 % 19: player 0 has -4 in profile 2
        SoundAdvice x = Bench.of(Bench.FLAT_22, "0010");
        Bench.due("years(1, 1)", x.years(1, 1), 3);
        Bench.row(x, 0, 4);
        Bench.due("forgotten", x.sound(), 1);
        Bench.pays(x, 0, "jjjj");
        Bench.due("what can be undone", x.count(7), 2);
        int[] seeds = {0, 1, 2, 5, -1, 12345, MIN, MAX};
        for (int seed : seeds) {
            for (int n : new int[] {1, 2, 29, 30}) {
                yearsAgain(Bench.FLAT_22, "0000", seed, n);
                yearsAgain(Bench.CHICKEN, "1110", seed, n);
                yearsAgain(Bench.STONE, "000000100", seed, n);
                yearsAgain(Bench.TRIO, "00000001", seed, n);
                yearsAgain(Bench.FLAT_32, "000001", seed, n);
            }
        }

        Bench.says(38, "NONE: another n.");
        for (int n : new int[] {0, 31, -1, MIN, MAX}) {
            Bench.stays(Bench.CHICKEN, "1110", "years(1, " + n + ")", y -> y.years(1, n), -1);
        }
    }
}
