/** What the document says ahead of its promises: its first page, terms 1 and terms 2. */
final class TermsPart {
    private static final int T = Bench.TERMS;
    /** Player 0 has 0, 1, 2 in the profiles 0, 3, 6: regrets 0, 1, 2 behind a round of profile 0. */
    private static final String FIRST_REGRETS = "33,jjjjjjkjjjjjljjjjj";
    /** Player 1 has 0, 1, 2 in the profiles 0, 1, 2. */
    private static final String SECOND_REGRETS = "33,jjjkjljjjjjjjjjjjj";
    private static final String BOTH_REGRET = "33,jjjkjlkjjjjjljjjjj";

    private TermsPart() {
    }

    static void run() {
        calls();
        games();
        gains();
        lists();
        plans();
        worthless();
        rounds();
        regrets();
        rows();
        refusals();
        noneFirst();
        rowStays();
        draws();
    }

    private static void calls() {
        Bench.says(T, "An object is used for at most 512 calls after it has been made; what later calls answer is"
                + " free.");
        SoundAdvice x = new SoundAdvice();
        for (int call = 0; call < 508; call++) {
            Bench.due("pays", x.pays(0, 3, 1 + call % 9), call == 0 ? 9 : 10 + (call - 1) % 9);
        }
        // the last one was 4, ahead of it 3: profile 1 is no plan
        Bench.due("call 509", x.count(7), 8);
        Bench.due("call 510", x.undo(), 7);
        Bench.due("call 511", x.plans(), 3);
        Bench.due("call 512", x.row(5), 3);
    }

    private static void games() {
        Bench.says(T, "PLAYERS 0, 1, .. (2 or 3), each with 2 or 3 ACTIONS, if there are two, with 2, if there are"
                + " three (at first two with 2).");
        SoundAdvice x = new SoundAdvice();
        Bench.due("players", x.count(0), 2);
        Bench.due("actions of 0", x.count(3), 2);
        Bench.due("actions of 1", x.count(4), 2);
        Bench.due("actions of 2", x.count(5), 0);
        int[][] due = {{2, 2, 2, 0}, {2, 2, 3, 0}, {2, 3, 2, 0}, {2, 3, 3, 0}, {3, 2, 2, 2}};
        String[] games = {Bench.FLAT_22, Bench.FLAT_23, Bench.FLAT_32, Bench.FLAT_33, Bench.FLAT_222};
        for (int k = 0; k < games.length; k++) {
            SoundAdvice y = Bench.of(games[k]);
            Bench.due("players of " + games[k], y.count(0), due[k][0]);
            for (int i = 0; i < 3; i++) {
                Bench.due("actions of " + i + " in " + games[k], y.count(3 + i), due[k][1 + i]);
            }
        }
        String[] none = {"12,jjjj", "21,jjjj", "42,jjjjjjjjjjjjjjjj", "24,jjjjjjjjjjjjjjjj", "2,jjjj",
            "223,jjjj", "232,jjjj", "322,jjjj", "333,jjjj", "2222,jjjj"};
        int[] answers = {-1, -2, -1, -2, -2, -3, -3, -3, -3, -4};
        for (int k = 0; k < none.length; k++) {
            Bench.staysReading(Bench.CHICKEN, "1110", none[k], SoundAdvice::game, answers[k]);
        }

        Bench.says(T, "PROFILES: what all do, an ACTION of each, by numbers: PLAYER 0's counts most (the last one's"
                + " goes through all first); P of them, 4 .. 9.");
        String[] done = {"00 01 10 11", "00 01 02 10 11 12", "00 01 10 11 20 21", "00 01 02 10 11 12 20 21 22",
            "000 001 010 011 100 101 110 111"};
        for (int k = 0; k < games.length; k++) {
            SoundAdvice y = Bench.of(games[k]);
            String[] each = done[k].split(" ");
            Bench.due("P of " + games[k], y.count(1), each.length);
            for (int p = 0; p < each.length; p++) {
                for (int i = 0; i < each[p].length(); i++) {
                    Bench.due("of(" + p + ", " + i + ") of " + games[k], y.of(p, i), each[p].charAt(i) - '0');
                }
            }
        }

        Bench.says(T, "PAYS: of each PLAYER in each PROFILE -9 .. 9 (0 at first).");
        Bench.pays(x, 0, "jjjj");
        Bench.pays(x, 1, "jjjj");
        Bench.due("9", x.pays(0, 0, 9), 9);
        Bench.due("-9", x.pays(0, 0, -9), 18);
        Bench.stays(Bench.CHICKEN, "1110", "10", y -> y.pays(0, 0, 10), -1);
        Bench.stays(Bench.CHICKEN, "1110", "-10", y -> y.pays(0, 0, -10), -1);

        Bench.says(T, "ADVICE: TOKENS on each PROFILE, T together, 6 at most (0 at first).");
        Bench.due("T", x.count(2), 0);
        Bench.tokens(x, "0000");
        Bench.due("6 on one", x.lays(3, 6), 6);
        Bench.due("T", x.count(2), 6);
        Bench.due("6 on all", Bench.advise(x, "2121"), 6);
        Bench.stays(Bench.CHICKEN, "2121", "a seventh", y -> y.lays(1, 1), -3);
        Bench.staysReading(Bench.CHICKEN, "2121", "2122", SoundAdvice::advice, -4);
    }

    private static void gains() {
        Bench.says(T, "GAIN of PLAYER i told a who does b (unlike ones): of all PROFILES in which i does a, TOKENS"
                + " times (PAY of i in that PROFILE but that i does b, less PAY of i in it), together.");
        // 3 times 7 - 6 and 2 times 0 - 2; then once 6 - 7
        SoundAdvice x = Bench.of(Bench.CHICKEN, "3210");
        x.gain(0, 0, 1);
        Bench.row(x, -1);
        x.gain(0, 1, 0);
        Bench.row(x, -1);
        x.gain(1, 0, 1);
        Bench.row(x, 1);
        x.gain(1, 1, 0);
        Bench.row(x, -2);
        Bench.stays(Bench.CHICKEN, "3210", "like ones", y -> y.gain(0, 1, 1), -1);

        Bench.says(T, "SOUND: no GAIN is above 0.");
        // were the pay of 0 in profile 0 v, the gains of 0 were 5 - v and v - 7
        SoundAdvice y = Bench.of(Bench.CHICKEN, "1110");
        int[] sound = {0, 1, 1, 1, 0};
        int[] most = {1, 0, -1, 0, 1};
        for (int v = 4; v <= 8; v++) {
            y.pays(0, 0, v);
            Bench.due("sound by " + v, y.sound(), sound[v - 4]);
            Bench.due("the greatest by " + v, y.row(0), most[v - 4]);
        }

        Bench.says(T, "(ADVICE of no TOKENS is SOUND.)");
        String[] games = {Bench.CHICKEN, Bench.PENNIES, Bench.STONE, Bench.TRIO};
        for (String game : games) {
            SoundAdvice z = Bench.of(game);
            Bench.due("sound() of " + game, z.sound(), 1);
            Bench.row(z, 0, 0, 0, 1);
        }

        Bench.says(T, "VALUE of a PLAYER: TOKENS times its PAY, together; WELFARE: VALUES of all PLAYERS together;"
                + " FLOOR: the least VALUE.");
        SoundAdvice w = Bench.of(Bench.CHICKEN, "0312");
        w.values();
        Bench.row(w, 13, 23, 36, 13);
        w.pays(1, 1, -9);
        w.values();
        Bench.row(w, 13, -25, -12, -25);
    }

    private static void lists() {
        Bench.says(T, "ADVICE is AHEAD of other ADVICE, if at the first PROFILE of unlike TOKENS it has more.");
        SoundAdvice x = Bench.of(Bench.FLAT_22);
        String[] order = {"2000", "1100", "1010", "1001", "0200", "0110", "0101", "0020", "0011", "0002"};
        for (int k = 0; k < order.length; k++) {
            x.number(2, k);
            for (int p = 0; p < 4; p++) {
                Bench.due("number(2, " + k + ")", x.row(p), order[k].charAt(p) - '0');
            }
        }

        Bench.says(T, "LIST of n: all SOUND ADVICE of T n, that AHEAD first.");
        Bench.due("all of 2", x.list(2), 10);
        SoundAdvice y = Bench.of(Bench.CHICKEN);
        String[] sound = {"1110", "0300", "0210", "0120", "0030"};
        for (int k = 0; k < sound.length; k++) {
            Bench.advise(y, sound[k]);
            Bench.due("which() of " + sound[k], y.which(), k);
        }
        Bench.due("no more", y.list(3), 5);
        // one less and one more than a token of those: the gains tell that they are not sound
        String[] not = {"2100", "2010", "1200", "1020", "0111", "3000", "0003"};
        for (String one : not) {
            Bench.advise(y, one);
            Bench.due("which() of " + one, y.which(), -2);
        }

        Bench.says(T, "It is a CORNER, if there are no two unlike ones of the LIST of which the TOKENS, on each"
                + " PROFILE, are together twice its own.");
        // itself and itself are not unlike
        Bench.due("2000", Bench.of(Bench.FLAT_22, "2000").corner(), 1);
        Bench.due("1100", Bench.of(Bench.FLAT_22, "1100").corner(), 0);
        Bench.due("1000", Bench.of(Bench.FLAT_22, "1000").corner(), 1);
        // 2100 and 0120 lie so around it, but are not of the list
        Bench.due("1110 of chicken", Bench.of(Bench.CHICKEN, "1110").corner(), 1);
        Bench.due("0210 of chicken", Bench.of(Bench.CHICKEN, "0210").corner(), 0);
        // 0300 and 0120
        Bench.due("0300 of chicken", Bench.of(Bench.CHICKEN, "0300").corner(), 1);
        Bench.due("six of 222", Bench.of(Bench.FLAT_222, "00000006").corner(), 1);
        Bench.due("six of 33", Bench.of(Bench.FLAT_33, "000000051").corner(), 0);

        Bench.says(T, "It is APART, if of each PROFILE TOKENS times T to the power of (PLAYERS less 1) is the"
                + " product, over all PLAYERS, of TOKENS of all PROFILES in which that one does what it does there.");
        apart(Bench.FLAT_22, "1111", 1);
        apart(Bench.FLAT_22, "2211", 1);
        apart(Bench.FLAT_22, "2210", 0);
        apart(Bench.FLAT_22, "1001", 0);
        apart(Bench.FLAT_22, "0006", 1);
        // of profile 3 alone it is not so: 0 times 3, and 1 times 1
        apart(Bench.FLAT_22, "1110", 0);
        apart(Bench.FLAT_33, "110110000", 1);
        apart(Bench.FLAT_33, "100010001", 0);
        apart(Bench.FLAT_222, "11110000", 1);
        apart(Bench.FLAT_222, "30000000", 1);
        apart(Bench.FLAT_222, "22001100", 1);
        apart(Bench.FLAT_222, "11100000", 0);
        apart(Bench.FLAT_222, "10000001", 0);
        // any two of the players draw as if alone, all three do not
        apart(Bench.FLAT_222, "10010110", 0);
    }

    private static void apart(String game, String advice, int want) {
        SoundAdvice x = Bench.of(game, advice);
        x.corner();
        Bench.due("apart " + advice, x.row(0), want);
    }

    private static void plans() {
        Bench.says(T, "PLAN: a PROFILE of which one TOKEN alone is SOUND.");
        String[] games = {Bench.CHICKEN, Bench.DILEMMA, Bench.PENNIES, Bench.FLAT_33, Bench.TRIO};
        int[] plans = {2, 1, 0, 9, 2};
        for (int k = 0; k < games.length; k++) {
            SoundAdvice x = Bench.of(games[k]);
            Bench.due("plans of " + games[k], x.plans(), plans[k]);
            int found = 0;
            for (int p = 0; p < x.count(1); p++) {
                x.lays(p, 1);
                found += x.sound();
                x.lays(p, -1);
            }
            Bench.due("sound of one token", found, plans[k]);
        }

        Bench.says(T, "SURE of a PLAYER: the most, over its ACTIONS, of the least PAY it has doing that.");
        SoundAdvice y = Bench.of("23,ajsjbjcjdjej");
        Bench.due("sure(0)", y.sure(0), 1);
        Bench.row(y, -7);
        Bench.due("sure(1)", y.sure(1), 0);
        Bench.row(y, 0);
        // the least is that of the first profile, of the last one
        SoundAdvice z = Bench.of("22,ajsjjjjj");
        Bench.due("sure(0)", z.sure(0), 1);
        Bench.row(z, 0);
        SoundAdvice w = Bench.of("22,jjjjsjaj");
        Bench.due("sure(0)", w.sure(0), 0);
        Bench.row(w, 0);
    }

    private static void worthless() {
        Bench.says(T, "WORTHLESS: an ACTION a of a PLAYER is so by another one b, if b gives it more in each PROFILE"
                + " of what others do, among what is LEFT.");
        left("22,jjjjkjjj", 4, 3, 3);
        left("22,jjjjkjkj", 3, 2, 3, 0);
        // less in one of three
        left("23,jjjjkjkjkjjj", 5, 3, 7);
        left("23,jjjjjjkjkjkj", 4, 2, 7, 0);
        // of 1 only once action 0 of 0 is out
        left("22,jojjkjkk", 2, 2, 2, 0, 10);
        left("22,jojjkjjk", 4, 3, 3);

        Bench.says(T, "LEFT: at first all; again and again the first ACTION (by PLAYERS, then ACTIONS) that is"
                + " WORTHLESS by one that is LEFT is taken out, till there is none.");
        left(Bench.FLAT_22, 4, 3, 3);
        left(Bench.FLAT_33, 6, 7, 7);
        left(Bench.FLAT_222, 6, 3, 3, 3);
        left(Bench.DILEMMA, 2, 2, 2, 0, 10);
        // pays of 0: (1 1 0) (0 0 3) (-1 -1 -1); of 1: (2 1 1) (2 0 1) (0 5 5): behind 2, 11, 12 it is 1 again
        left("33,klkkjkjljjmkijioio", 2, 1, 1, 2, 11, 12, 1);
        // each has more the more it does: the least ACTIONS first
        left("33,jjjkjlkjkkklljlkll", 2, 4, 4, 0, 1, 10, 11);
        // each of three has more by 1
        left("222,jjjjjkjkjjkkkjjkjkkkjkkk", 3, 2, 2, 2, 0, 10, 20);
    }

    private static void left(String game, int many, long... row) {
        SoundAdvice x = Bench.of(game);
        Bench.due("left() of " + game, x.left(), many);
        Bench.row(x, row);
    }

    private static void rounds() {
        Bench.says(T, "PLAY of n ROUNDS, from PROFILE s: the first ROUND is s.");
        for (int s = 0; s < 4; s++) {
            for (int rule = 0; rule < 2; rule++) {
                SoundAdvice x = Bench.of(Bench.CHICKEN);
                Bench.due("play of one", x.play(rule, 5, s, 1), 1);
                Bench.due("from " + s, x.row(0), s);
                Bench.due("one round", x.row(1), 1);
            }
        }

        Bench.says(T, "REGRET of PLAYER i for b: over all ROUNDS so far, PAY of i had it done b, less PAY it had,"
                + " together.");
        // from 0: 0 0, 1 1; 3: for 0 2 more; 0: for 1 one more; 0 again; 3
        int[] most = {1, 2, 2, 3, 4};
        for (int n = 1; n <= 5; n++) {
            SoundAdvice x = Bench.of(Bench.CHICKEN);
            int unlike = x.play(0, 0, 0, n);
            Bench.due("most regret behind " + n, x.row(2 * unlike), most[n - 1]);
        }
        // regrets grow less too: behind 0, 1, 1, 3, 3 those of 0 are -4 and 2, those of 1 0 (from -4) and 2
        SoundAdvice y = Bench.of(Bench.PENNIES);
        y.play(0, 0, 0, 5);
        Bench.row(y, 0, 1, 1, 2, 3, 2, 2);

        Bench.says(T, "By RULE 0: each next ROUND all at once do the ACTION of which REGRET is most (of equal ones"
                + " the least).");
        SoundAdvice z = Bench.of(Bench.CHICKEN);
        // behind 0, 3, 0 both regret both by 2: the least
        z.play(0, 0, 0, 4);
        Bench.row(z, 0, 3, 3, 1, 3);
        z.play(0, 0, 0, 5);
        Bench.row(z, 0, 3, 3, 2, 4);
        SoundAdvice w = Bench.of(Bench.FLAT_33);
        w.play(0, 0, 8, 2);
        Bench.row(w, 8, 1, 0, 1, 0);
        SoundAdvice v = Bench.of(BOTH_REGRET);
        v.play(0, 0, 0, 2);
        Bench.row(v, 0, 1, 8, 1, 2);
        // player 1 regrets that it did not do 0, player 0 nothing
        SoundAdvice u = Bench.of("33,jjjjjjjjjjjjjojjjj");
        u.play(0, 0, 8, 2);
        Bench.row(u, 8, 1, 0, 1, 5);
    }

    private static void regrets() {
        Bench.says(T, "By RULE 1: if no REGRET of a PLAYER is above 0, it does what it did in the last ROUND;");
        SoundAdvice x = Bench.of(Bench.FLAT_33);
        x.play(1, 5, 8, 60);
        Bench.row(x, 8, 60, 0);
        // player 0 regrets nothing, player 1 does 1 for ever
        SoundAdvice y = Bench.of("22,jjjkjjjk");
        y.play(1, 5, 2, 3);
        Bench.row(y, 2, 1, 3, 2, 1);

        Bench.says(T, "else, S being REGRETS above 0 together, a DRAW of S: the first ACTION up to which REGRETS"
                + " above 0 together are more than that");
        // draws of 3 by seeds 0, 2, 1: 0 % 3, 33676 % 3, 16838 % 3 are 0, 1, 2
        SoundAdvice z = Bench.of(FIRST_REGRETS);
        z.play(1, 0, 0, 2);
        Bench.row(z, 0, 1, 3, 1, 3);
        z.play(1, 2, 0, 2);
        Bench.row(z, 0, 1, 6, 1, 2);
        z.play(1, 1, 0, 2);
        Bench.row(z, 0, 1, 6, 1, 2);
        // from the last profile: 0 and 1 are regretted by 1 and 2, player 1 regrets 0 by 5
        SoundAdvice q = Bench.of("33,jjjjkjjjjjljjojjjj");
        q.play(1, 0, 8, 2);
        Bench.row(q, 8, 1, 0, 1, 5);
        q.play(1, 2, 8, 2);
        Bench.row(q, 8, 1, 3, 1, 5);
        q.play(1, 1, 8, 2);
        Bench.row(q, 8, 1, 3, 1, 5);
        // the most regret of all is for 0
        SoundAdvice p = Bench.of("22,jjjjjjjj");
        p.pays(0, 1, 4);
        p.play(1, 0, 3, 1);
        Bench.row(p, 3, 1, 4);
        // regrets below 0 count nothing: -9, 0 and 1 draw of 1
        SoundAdvice w = Bench.of("33,jjjjjjajjjjjkjjjjj");
        for (int seed = 0; seed < 9; seed++) {
            w.play(1, seed, 0, 2);
            Bench.row(w, 0, 1, 6, 1, 1);
        }

        Bench.says(T, "(by PLAYERS, a DRAW of each that needs one).");
        // two draws of 3 by seed 0: 0, 54236 % 3; by seed 1: 16838 % 3, 38526 % 3
        SoundAdvice v = Bench.of(BOTH_REGRET);
        v.play(1, 0, 0, 2);
        Bench.row(v, 0, 1, 5, 1, 2);
        v.play(1, 1, 0, 2);
        Bench.row(v, 0, 1, 7, 1, 2);
        // player 0 needs none, so the first one is of player 1
        SoundAdvice u = Bench.of(SECOND_REGRETS);
        u.play(1, 0, 0, 2);
        Bench.row(u, 0, 1, 1, 1, 3);
        u.play(1, 1, 0, 2);
        Bench.row(u, 0, 1, 2, 1, 2);
    }

    private static void rows() {
        Bench.says(T, "ROW: numbers told last by a call that says so.");
        SoundAdvice x = Bench.of(Bench.CHICKEN, "1110");
        Bench.row(x);
        x.sound();
        Bench.row(x, -1, 0, 0, 1);
        x.gain(0, 1, 0);
        Bench.row(x, -1);
        x.values();
        Bench.row(x, 15, 15, 30, 15);
        x.tight();
        Bench.row(x);
        tellAnew(Bench.CHICKEN, "1110");
        tellAnew(Bench.STONE, "100010000");
        tellAnew(Bench.TRIO, "10000001");
        tellAnew(Bench.PENNIES, "0110");

        Bench.says(T, "Sets are bits.");
        SoundAdvice y = Bench.of(Bench.FLAT_33, "100000002");
        Bench.due("profiles with tokens", y.count(6), 257);
        Bench.due("left()", y.left(), 6);
        Bench.row(y, 7, 7);

        Bench.says(T, "Questions change nothing.");
        String[] games = {Bench.CHICKEN, Bench.STONE, Bench.TRIO};
        String[] advice = {"1110", "100020100", "01000002"};
        for (int k = 0; k < games.length; k++) {
            questions(games[k], advice[k]);
        }
    }

    /** The row of a call is the same behind longer and shorter rows of others, and behind other advice. */
    private static void tellAnew(String game, String advice) {
        Bench.Call[] calls = {x -> x.gain(0, 0, 1), SoundAdvice::sound, SoundAdvice::tight, x -> x.hangs(1),
            SoundAdvice::values, x -> x.map(0), SoundAdvice::corner, SoundAdvice::plans, x -> x.sure(1),
            SoundAdvice::left, x -> x.list(2), x -> x.best(2, 7), x -> x.number(2, 0), x -> x.near(2, 0),
            SoundAdvice::beyond, x -> x.play(1, 3, 0, 60), x -> x.mixed(0), x -> x.were(0, 0, 9),
            x -> x.range(0, 0), SoundAdvice::mends,
            x -> Bench.live(x, ""), x -> x.years(3, 30), x -> x.scales(0, Bench.MAX, Bench.MAX),
            x -> x.sheet(0, 8, 2, 3, 0, 0)};
        for (Bench.Call call : calls) {
            SoundAdvice fresh = Bench.of(game, advice);
            fresh.keep(0);
            long answer = call.on(fresh);
            long[] row = Bench.rowOf(fresh);
            SoundAdvice used = Bench.of(game, advice.replace('1', '2'));
            for (Bench.Call other : calls) {
                other.on(used);
            }
            Bench.advise(used, advice);
            used.keep(0);
            for (Bench.Call other : calls) {
                other.on(used);
                if (call.on(used) != answer) {
                    Bench.fail("another answer behind other calls");
                }
                if (row.length > 0 || answer >= 0) {
                    Bench.row(used, row);
                }
            }
        }
    }

    private static void questions(String game, String advice) {
        Bench.staysButRow(game, advice, "gain", x -> x.gain(0, 0, 1));
        Bench.staysButRow(game, advice, "sound", SoundAdvice::sound);
        Bench.staysButRow(game, advice, "tight", SoundAdvice::tight);
        Bench.staysButRow(game, advice, "hangs", x -> x.hangs(1));
        Bench.staysButRow(game, advice, "values", SoundAdvice::values);
        Bench.staysButRow(game, advice, "map", x -> x.map(1));
        Bench.staysButRow(game, advice, "corner", SoundAdvice::corner);
        Bench.staysButRow(game, advice, "plans", SoundAdvice::plans);
        Bench.staysButRow(game, advice, "sure", x -> x.sure(0));
        Bench.staysButRow(game, advice, "left", SoundAdvice::left);
        Bench.staysButRow(game, advice, "list", x -> x.list(3));
        for (int what = 0; what < 8; what++) {
            int by = what;
            Bench.staysButRow(game, advice, "best", x -> x.best(3, by));
        }
        Bench.staysButRow(game, advice, "number", x -> x.number(6, 0));
        Bench.staysButRow(game, advice, "near", x -> x.near(6, 0));
        Bench.staysButRow(game, advice, "beyond", SoundAdvice::beyond);
        Bench.staysButRow(game, advice, "play", x -> x.play(1, 3, 0, 60));
        Bench.staysButRow(game, advice, "mixed", x -> x.mixed(1));
        Bench.staysButRow(game, advice, "were", x -> x.were(0, 0, 9));
        Bench.staysButRow(game, advice, "range", x -> x.range(0, 0));
        Bench.staysButRow(game, advice, "mends", SoundAdvice::mends);
        Bench.staysButRow(game, advice, "years", x -> x.years(7, 30));
        Bench.stays(game, advice, "profile", x -> x.profile(0, 0, x.count(0) == 2 ? -1 : 0), 0);
        Bench.stays(game, advice, "of", x -> x.of(0, 0), 0);
        Bench.stays(game, advice, "count", x -> x.count(0), game.indexOf(','));
        Bench.stays(game, advice, "row", x -> x.row(0) * 0, 0);
        Bench.stays(game, advice, "which", x -> x.which() * 0, 0);
        Bench.stays(game, advice, "calm", x -> x.calm(1, 3, 0, 5) * 0, 0);
    }

    private static void refusals() {
        Bench.says(T, "Refused calls answer NONE, or false, and change nothing but THE TEXT, which a call that reads"
                + " it empties.");
        Bench.stays(Bench.CHICKEN, "1110", "pays", x -> x.pays(2, 0, 0), -1);
        Bench.stays(Bench.CHICKEN, "1110", "keep", x -> x.keep(2) ? 1 : 0, 0);
        Bench.stays(Bench.CHICKEN, "1110", "again", x -> x.again(2) ? 1 : 0, 0);
        Bench.stays(Bench.CHICKEN, "1110", "end", x -> x.end(16) ? 1 : 0, 0);
        Bench.staysReading(Bench.CHICKEN, "1110", "l1+1m10p01al1", SoundAdvice::day, -14);
        Bench.staysReading(Bench.CHICKEN, "1110", "22,pplqqlj", SoundAdvice::game, -11);
        Bench.staysReading(Bench.CHICKEN, "1110", "111", SoundAdvice::advice, -4);
        SoundAdvice x = Bench.of(Bench.CHICKEN);
        String[] texts = {"22,pplqqlj", Bench.CHICKEN};
        for (String text : texts) {
            Bench.play(x, text);
            Bench.due("signs behind game()", x.count(9), 0);
        }
        for (String text : new String[] {"111", "1110"}) {
            Bench.advise(x, text);
            Bench.due("signs behind advice()", x.count(9), 0);
        }
        for (String text : new String[] {"m0", "m01", "m03m03"}) {
            Bench.live(x, text);
            Bench.due("signs behind day()", x.count(9), 0);
        }
    }

    private static void noneFirst() {
        Bench.says(T, "NONE comes ahead of other answers below 0 (answers that may be any number are in the ROW);");
        // each would be another answer below 0, were there such a player, profile, n
        Bench.stays(Bench.CHICKEN, "1110", "moves to none", x -> x.moves(3, 4), -1);
        Bench.stays(Bench.CHICKEN, "1110", "moves none", x -> x.moves(3, 3), -1);
        Bench.stays(Bench.CHICKEN, "1110", "lays too many", x -> x.lays(4, 7), -1);
        Bench.stays(Bench.CHICKEN, "1110", "lays too few", x -> x.lays(-1, -7), -1);
        Bench.stays(Bench.PENNIES, "1110", "best of none", x -> x.best(3, 5), -1);
        Bench.stays(Bench.PENNIES, "1110", "takes of none", x -> x.takes(3, 5), -1);
        Bench.stays(Bench.CHICKEN, "1110", "scales too great", x -> x.scales(2, Bench.MAX, Bench.MAX), -1);
        Bench.stays(Bench.DILEMMA, "1000", "range of none", x -> x.range(2, 0), -1);
        Bench.stays(Bench.DILEMMA, "1000", "calm never", x -> x.calm(2, 0, 0, 0), -1);
        Bench.stays(Bench.CHICKEN, "1110", "sheet of -1", x -> x.sheet(2, 0, 2, -1, 0, 0), -1);
        Bench.stays(Bench.CHICKEN, "1110", "sheet missing", x -> x.sheet(2, 0, 3, 1, 0, 0), -1);
        Bench.stays(Bench.CHICKEN, "1110", "sheet of no player", x -> x.sheet(2, 0, 2, 1, 10, 0), -1);
        SoundAdvice y = Bench.of(Bench.CHICKEN, "1110");
        Bench.due("gain", y.gain(0, 0, 1), 0);
        Bench.row(y, -1);
    }

    private static void rowStays() {
        Bench.says(T, "the ROW stays with each answer that tells of a refusal or that there is none, and with calls"
                + " that do not tell of it, but where it is said.");
        // there is none
        Bench.stays(Bench.CHICKEN, "1000", "corner", SoundAdvice::corner, -2);
        Bench.stays(Bench.CHICKEN, "1000", "which", SoundAdvice::which, -2);
        Bench.stays(Bench.PENNIES, "1000", "best", x -> x.best(3, 0), -2);
        Bench.stays(Bench.PENNIES, "1000", "takes", x -> x.takes(3, 0), -2);
        Bench.stays(Bench.CHICKEN, "1110", "beyond", SoundAdvice::beyond, -2);
        Bench.stays(Bench.DILEMMA, "1000", "calm", x -> x.calm(0, 0, 0, 0), -2);
        Bench.stays(Bench.DILEMMA, "1000", "range", x -> x.range(0, 0), -2);
        Bench.stays(Bench.CHICKEN, "0000", "mends", SoundAdvice::mends, -2);
        Bench.stays(Bench.PENNIES, "1000", "mends", SoundAdvice::mends, -3);
        // calls that do not tell of it
        SoundAdvice x = Bench.of(Bench.CHICKEN, "1110");
        x.values();
        x.pays(0, 0, 5);
        x.scales(0, -1, 0);
        x.moves(0, 1);
        x.lays(0, 1);
        x.takes(2, 0);
        x.sheet(0, 0, 2, 2, 1, 1);
        x.undo();
        x.keep(0);
        x.again(0);
        Bench.advise(x, "0110");
        x.which();
        x.calm(0, 0, 0, 30);
        x.profile(0, 0, -1);
        Bench.play(x, Bench.CHICKEN);
        Bench.row(x, 15, 15, 30, 15);
        // where it is said
        Bench.due("scales", x.scales(0, 2, 0), -4);
        Bench.row(x, 0, 0);
        x.values();
        Bench.due("sheet", x.sheet(0, 3, 2, 2, 0, 0), -4);
        Bench.row(x, 1, 1);
        // a number that is 0 is told with its row
        SoundAdvice y = Bench.of(Bench.PENNIES, "1000");
        y.values();
        Bench.due("list", y.list(1), 0);
        Bench.row(y, 0, 0);
        Bench.due("near", Bench.of(Bench.PENNIES).near(4, 0), 0);
    }

    private static void draws() {
        Bench.says(T, "A DRAW of n: R = R times 1103515245 + 12345 (as ints; R is seed at first), (R without sign,"
                + " by 65536) % n.");
        // of 3 by -1: 48697, by the greatest int 15929, by the least one 32768, by 0 0; with sign the first and the
        // third were below 0
        SoundAdvice x = Bench.of(FIRST_REGRETS);
        int[] seeds = {-1, Bench.MAX, Bench.MIN, 0, 9};
        int[] then = {6, 6, 6, 3, 3};
        for (int k = 0; k < seeds.length; k++) {
            x.play(1, seeds[k], 0, 2);
            Bench.row(x, 0, 1, then[k], 1, then[k] == 6 ? 2 : 3);
        }
        // many draws one behind another, made again here with longs
        for (int seed : new int[] {0, 1, -1, 77, Bench.MAX, Bench.MIN}) {
            ChangesPart.yearsAgain(Bench.TRIO, "00100001", seed, 30);
            ChangesPart.yearsAgain(Bench.STONE, "001000010", seed, 30);
        }
    }
}
