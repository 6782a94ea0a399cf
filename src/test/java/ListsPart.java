import java.util.ArrayList;
import java.util.Arrays;
import java.util.List;

/** Promises 19 to 24: all sound advice. */
final class ListsPart {
    private static final int MIN = Bench.MIN;
    private static final int MAX = Bench.MAX;
    private static final int LONGEST_LIST = 3003;
    /** Longer ones are not looked through by pairs. */
    private static final int SHORT_LIST = 400;
    /** The one way to draw alone in it is (1/2, 1/2) and (1/3, 2/3): sound advice of 6 tokens, of no fewer. */
    private static final String SIXTHS = "22,ljjkjkkj";
    /** The same with (2/3, 1/3) and (1/3, 2/3): of 9 tokens. */
    private static final String NINTHS = "22,ljjkjlkj";
    /** Seven tokens can be laid so that it is sound and none of them lies on a plan. */
    private static final String SEVEN = "222,jnmojjkmkkmoonmnnjjollmn";
    /** Each has more the more it does: the one plan is the last profile. */
    private static final String MORE = "33,jjjkjlkjkkklljlkll";

    private ListsPart() {
    }

    static void run() {
        sizes();
        list();
        best();
        bestNone();
        number();
        which();
        near();
        beyond();
    }

    private static void sizes() {
        Bench.says(Bench.TERMS, "---- all sound advice (n 1 .. 6, but of list()).");
        SoundAdvice x = Bench.of(Bench.FLAT_22);
        for (int n = 1; n <= 6; n++) {
            Bench.due("best(" + n + ", 0)", x.best(n, 0), 0);
            Bench.due("number(" + n + ", 0)", x.number(n, 0), 1);
            Bench.due("near(" + n + ", 0)", x.near(n, 0), 3);
        }
        for (int n : new int[] {0, 7, -1, MIN, MAX}) {
            Bench.stays(Bench.FLAT_22, "1000", "best", y -> y.best(n, 0), -1);
            Bench.stays(Bench.FLAT_22, "1000", "takes", y -> y.takes(n, 0), -1);
            Bench.stays(Bench.FLAT_22, "1000", "number", y -> y.number(n, 0), -1);
            Bench.stays(Bench.FLAT_22, "1000", "near", y -> y.near(n, 0), -1);
        }
    }

    private static void list(String game, int n, int many, long corners, long apart) {
        SoundAdvice x = Bench.of(game);
        x.sound();
        Bench.due("list(" + n + ") of " + game, x.list(n), many);
        Bench.row(x, corners, apart);
    }

    private static void list() {
        Bench.says(19, "How many there are in the LIST of n (1 .. 4); the ROW: how many of them are CORNERS, how"
                + " many APART.");
        list(Bench.FLAT_22, 1, 4, 4, 4);
        list(Bench.FLAT_22, 2, 10, 4, 8);
        list(Bench.PENNIES, 3, 0, 0, 0);
        list(Bench.PENNIES, 4, 1, 1, 1);
        list(Bench.CHICKEN, 3, 5, 3, 2);
        list(Bench.FLAT_33, 1, 9, 9, 9);
        list(Bench.TRIO, 1, 2, 2, 2);
        // apart: both on one profile, 9 ways, or in one row, 9 ways, or in one column, 9 ways
        list(Bench.FLAT_33, 2, 45, 9, 27);
        String[] games = {Bench.CHICKEN, Bench.FLAT_22, SIXTHS, Bench.TRIO, "23,kjjlkkllljkk", "33,kkkjjllkjlkjljjkjj",
            "33,jllkjlljjljjjkljjk", "222,kllllkjjllkkljjklklkjjlk", "222,jljkkjljjjlkljkjkjllllkl"};
        for (String game : games) {
            for (int n = 1; n <= 4; n++) {
                corners(game, n);
            }
        }
        corners(Bench.CHICKEN, 5);
        corners(Bench.CHICKEN, 6);
        corners("33,kkkjjllkjlkjljjkjj", 6);
        Bench.due("list(4) of 9", Bench.of(Bench.FLAT_33).list(4), 495);
        Bench.due("list(4) of 8", Bench.of(Bench.FLAT_222).list(4), 330);

        Bench.says(19, "NONE: another n.");
        for (int n : new int[] {0, 5, 6, -1, MIN, MAX}) {
            Bench.stays(Bench.CHICKEN, "1110", "list(" + n + ")", x -> x.list(n), -1);
        }
    }

    /** Corners of a LIST by looking at all pairs of it, held against list() and corner(). */
    private static void corners(String game, int n) {
        SoundAdvice x = Bench.of(game);
        List<long[]> all = new ArrayList<>();
        for (int k = 0; k < SHORT_LIST && x.number(n, k) > 0; k++) {
            all.add(Bench.rowOf(x));
        }
        Bench.due("a short list of " + game, all.size() < SHORT_LIST, true);
        int corners = 0;
        for (long[] one : all) {
            boolean isCorner = !liesBetween(one, all);
            corners += isCorner ? 1 : 0;
            StringBuilder text = new StringBuilder();
            for (long tokens : one) {
                text.append(tokens);
            }
            Bench.advise(x, text.toString());
            Bench.due("corner() of " + text + " in " + game, x.corner(), isCorner ? 1 : 0);
        }
        if (n <= 4) {
            Bench.due("list(" + n + ") of " + game, x.list(n), all.size());
            Bench.due("corners of " + n + " in " + game, x.row(0), corners);
        }
    }

    private static boolean liesBetween(long[] one, List<long[]> all) {
        for (int i = 0; i < all.size(); i++) {
            for (int j = 0; j < i; j++) {
                boolean isHalf = true;
                for (int p = 0; p < one.length && isHalf; p++) {
                    isHalf = all.get(i)[p] + all.get(j)[p] == 2 * one[p];
                }
                if (isHalf) {
                    return true;
                }
            }
        }
        return false;
    }

    private static void best(String game, int n, int what, int number, long... row) {
        SoundAdvice x = Bench.of(game);
        Bench.due("best(" + n + ", " + what + ") of " + game, x.best(n, what), number);
        Bench.row(x, row);
    }

    private static void best() {
        Bench.says(20, "Of the LIST of n that ADVICE that is best by what: 0: the most WELFARE, 1: the least, 2: the"
                + " most FLOOR, 3 .. 5: the most VALUE of PLAYER what - 3, 6: the fewest TOKENS on PROFILES that are"
                + " PLANS, 7: on the most PROFILES (of equal ones that AHEAD): its number in the LIST (0, 1, ..);"
                + " the ROW: its TOKENS, then 0 .. 2: that number, 3 .. 5: that VALUE, 6, 7: that many.");
        // 1110, 0300, 0210, 0120, 0030
        best(Bench.CHICKEN, 3, 0, 0, 1, 1, 1, 0, 30);
        best(Bench.CHICKEN, 3, 1, 1, 0, 3, 0, 0, 27);
        best(Bench.CHICKEN, 3, 2, 0, 1, 1, 1, 0, 15);
        best(Bench.CHICKEN, 3, 3, 4, 0, 0, 3, 0, 21);
        best(Bench.CHICKEN, 3, 4, 1, 0, 3, 0, 0, 21);
        best(Bench.CHICKEN, 3, 6, 0, 1, 1, 1, 0, 2);
        best(Bench.CHICKEN, 3, 7, 0, 1, 1, 1, 0, 3);
        // 0200, 0110, 0020: floors 4, 9, 4
        best(Bench.CHICKEN, 2, 2, 1, 0, 1, 1, 0, 9);
        best(Bench.CHICKEN, 2, 0, 0, 0, 2, 0, 0, 18);
        best(Bench.CHICKEN, 2, 7, 1, 0, 1, 1, 0, 2);
        // all are equal: that ahead
        for (int what : new int[] {0, 1, 2, 3, 4}) {
            best(Bench.FLAT_22, 6, what, 0, 6, 0, 0, 0, 0);
            best("22,aaaaaaaa", 1, what, 0, 1, 0, 0, 0, what < 2 ? -18 : -9);
        }
        best(Bench.FLAT_22, 6, 6, 0, 6, 0, 0, 0, 6);
        best(Bench.FLAT_22, 1, 7, 0, 1, 0, 0, 0, 1);
        best(Bench.FLAT_22, 2, 7, 1, 1, 1, 0, 0, 2);
        // ahead of 1111: 1, 3, 6 of more on the first one, then 1300, 1210, 1201, 1120
        best(Bench.FLAT_22, 4, 7, 14, 1, 1, 1, 1, 4);
        // ahead of 111111000: 495, 120, 28, 6 and 1 of more at the first unlike place
        best(Bench.FLAT_33, 6, 7, 650, 1, 1, 1, 1, 1, 1, 0, 0, 0, 6);
        best(Bench.PENNIES, 4, 6, 0, 1, 1, 1, 1, 0);
        best(Bench.DILEMMA, 6, 6, 0, 0, 0, 0, 6, 6);
        best(Bench.TRIO, 1, 5, 0, 1, 0, 0, 0, 0, 0, 0, 0, 2);
        best(MORE, 6, 0, 0, 0, 0, 0, 0, 0, 0, 0, 0, 6, 24);
        best(MORE, 1, 7, 0, 0, 0, 0, 0, 0, 0, 0, 0, 1, 1);
        // player 2 has more in the last one
        best("222,llljjjjjjjjjjjjjjjjjjllm", 1, 5, 1, 0, 0, 0, 0, 0, 0, 0, 1, 3);
        best("222,llljjjjjjjjjjjjjjjjjjllm", 2, 5, 7, 0, 0, 0, 0, 0, 0, 0, 2, 6);
    }

    private static void bestNone() {
        Bench.says(20, "-2: there is none; NONE: no such PLAYER, another n, what.");
        for (int what : new int[] {0, 1, 2, 3, 4, 6, 7}) {
            Bench.stays(Bench.PENNIES, "1110", "best(3, " + what + ")", x -> x.best(3, what), -2);
            Bench.due("best(4, " + what + ")", Bench.of(Bench.PENNIES).best(4, what), 0);
        }
        int[][] none = {{3, 5}, {3, 8}, {3, -1}, {3, MIN}, {3, MAX}, {0, 0}, {7, 0}, {-1, 0}, {MIN, 0}, {MAX, 0},
            {0, 8}, {7, 5}};
        for (int[] a : none) {
            Bench.stays(Bench.CHICKEN, "1110", "best" + Arrays.toString(a), x -> x.best(a[0], a[1]), -1);
            Bench.stays(Bench.PENNIES, "1110", "best" + Arrays.toString(a), x -> x.best(a[0], a[1]), -1);
        }
        Bench.due("player 2 of three", Bench.of(Bench.FLAT_222).best(6, 5), 0);
        Bench.stays(Bench.FLAT_222, "10000000", "best(6, 8)", x -> x.best(6, 8), -1);
    }

    private static void number() {
        Bench.says(21, "Number k of the LIST of n (from 0 on): on how many PROFILES it has TOKENS; the ROW: its"
                + " TOKENS.");
        SoundAdvice x = Bench.of(Bench.FLAT_33);
        Bench.due("the first of all", x.number(6, 0), 1);
        Bench.row(x, 6, 0, 0, 0, 0, 0, 0, 0, 0);
        Bench.due("number(6, 1)", x.number(6, 1), 2);
        Bench.row(x, 5, 1, 0, 0, 0, 0, 0, 0, 0);
        Bench.due("number(6, 650)", x.number(6, 650), 6);
        Bench.row(x, 1, 1, 1, 1, 1, 1, 0, 0, 0);
        Bench.due("the last of all", x.number(6, 3002), 1);
        Bench.row(x, 0, 0, 0, 0, 0, 0, 0, 0, 6);
        Bench.due("the last of 1", x.number(1, 8), 1);
        Bench.row(x, 0, 0, 0, 0, 0, 0, 0, 0, 1);
        SoundAdvice y = Bench.of(Bench.FLAT_222);
        Bench.due("the last of 8", y.number(6, 1715), 1);
        Bench.row(y, 0, 0, 0, 0, 0, 0, 0, 6);

        Bench.says(21, "NONE: none such, another n.");
        int[][] none = {{3, 5}, {3, -1}, {3, MAX}, {3, MIN}, {0, 0}, {7, 0}, {-1, 0}, {MIN, 0}, {MAX, 0}, {1, 2},
            {6, 3003}};
        for (int[] a : none) {
            Bench.stays(Bench.CHICKEN, "1110", "number" + Arrays.toString(a), z -> z.number(a[0], a[1]), -1);
        }
        Bench.due("number(3, 4)", Bench.of(Bench.CHICKEN).number(3, 4), 1);
        Bench.stays(Bench.FLAT_33, "100000000", "number(6, 3003)", z -> z.number(6, 3003), -1);
        Bench.stays(Bench.FLAT_33, "100000000", "number(1, 9)", z -> z.number(1, 9), -1);
        Bench.stays(Bench.FLAT_222, "10000000", "number(6, 1716)", z -> z.number(6, 1716), -1);
        Bench.stays(Bench.PENNIES, "1000", "number(3, 0)", z -> z.number(3, 0), -1);
    }

    private static void which() {
        Bench.says(22, "Which number of its LIST ADVICE is.");
        String[] games = {Bench.CHICKEN, Bench.CHICKEN, Bench.FLAT_33, Bench.FLAT_33, Bench.FLAT_222, Bench.PENNIES,
            Bench.FLAT_22};
        String[] advice = {"1110", "0030", "600000000", "000000006", "00000006", "1111", "0001"};
        int[] due = {0, 4, 0, 3002, 1715, 0, 3};
        for (int k = 0; k < games.length; k++) {
            Bench.stays(games[k], advice[k], "which() of " + advice[k], SoundAdvice::which, due[k]);
        }

        Bench.says(22, "-2: it is not SOUND, or has no TOKENS.");
        Bench.stays(Bench.CHICKEN, "1000", "not sound", SoundAdvice::which, -2);
        Bench.stays(Bench.CHICKEN, "2211", "not sound", SoundAdvice::which, -2);
        Bench.stays(Bench.PENNIES, "2111", "not sound", SoundAdvice::which, -2);
        Bench.stays(Bench.CHICKEN, "0000", "no tokens", SoundAdvice::which, -2);
        Bench.stays(Bench.FLAT_33, "000000000", "no tokens", SoundAdvice::which, -2);
    }

    private static void near(String game, int n, int k, int many, long first) {
        SoundAdvice x = Bench.of(game);
        Bench.due("near(" + n + ", " + k + ") of " + game, x.near(n, k), many);
        Bench.row(x, first);
    }

    private static void near() {
        Bench.says(23, "How many of the LIST of n are one TOKEN moved (from a PROFILE to another one) from the one"
                + " of number k; the ROW: the first of them (its number; NONE without).");
        near(Bench.CHICKEN, 3, 0, 2, 2);
        near(Bench.CHICKEN, 3, 1, 1, 2);
        near(Bench.CHICKEN, 3, 2, 3, 0);
        near(Bench.CHICKEN, 3, 4, 1, 3);
        near(Bench.FLAT_22, 1, 0, 3, 1);
        near(Bench.FLAT_22, 1, 3, 3, 0);
        // 2000 and 1100 of ten: two tokens moved are too many
        near(Bench.FLAT_22, 2, 0, 3, 1);
        near(Bench.FLAT_22, 2, 1, 6, 0);
        // 100000005: behind the 495 of two and more on the first one it is the last of 792 of one
        near(Bench.FLAT_33, 6, 3002, 8, 1286);
        near(Bench.PENNIES, 4, 0, 0, -1);
        near(Bench.DILEMMA, 1, 0, 0, -1);
        near(Bench.TRIO, 1, 1, 1, 0);

        Bench.says(23, "NONE: none such, another n.");
        int[][] none = {{3, 5}, {3, -1}, {3, MAX}, {3, MIN}, {0, 0}, {7, 0}, {-1, 0}, {MIN, 0}, {MAX, 0}, {1, 2}};
        for (int[] a : none) {
            Bench.stays(Bench.CHICKEN, "1110", "near" + Arrays.toString(a), z -> z.near(a[0], a[1]), -1);
        }
        Bench.stays(Bench.FLAT_33, "100000000", "near(6, 3003)", z -> z.near(6, 3003), -1);
        Bench.stays(Bench.PENNIES, "1000", "near(3, 0)", z -> z.near(3, 0), -1);
    }

    /** How many of the LIST of n have no tokens on plans, by number() and plans(). */
    private static int offPlans(String game, int n) {
        SoundAdvice x = Bench.of(game);
        boolean[] isPlan = new boolean[x.count(1)];
        for (int k = 0, plans = x.plans(); k < plans; k++) {
            isPlan[(int) x.row(2 * k)] = true;
        }
        int found = 0;
        for (int k = 0; k < LONGEST_LIST && x.number(n, k) > 0; k++) {
            boolean off = true;
            for (int p = 0; p < isPlan.length; p++) {
                off &= !isPlan[p] || x.row(p) == 0;
            }
            found += off ? 1 : 0;
        }
        return found;
    }

    private static void beyond(String game, int n) {
        for (int fewer = 1; fewer < n; fewer++) {
            Bench.due("of " + fewer + " in " + game, offPlans(game, fewer), 0);
        }
        SoundAdvice x = Bench.of(game);
        Bench.due("beyond() of " + game, x.beyond(), n);
        Bench.row(x, offPlans(game, n));
    }

    private static void beyond() {
        Bench.says(24, "The least n for which some of the LIST has no TOKENS on PLANS: n; the ROW: how many of that"
                + " LIST are so.");
        beyond(Bench.PENNIES, 4);
        beyond(SIXTHS, 6);
        beyond("222,jlkkljkkkklklkkkkljkljjj", 2);
        beyond("222,llkkjlkkkjkklkljkjjllkjl", 2);
        beyond("33,klkkkjjjlkkllljllk", 3);
        beyond("33,jjjjljjlljklljkljj", 5);
        beyond("222,jlkkjklkkjljkjjjllklkljl", 5);
        beyond("222,jllkllkjkljlkkllkljlljlk", 6);
        SoundAdvice x = Bench.of(SIXTHS);
        x.beyond();
        Bench.row(x, 1);
        Bench.due("best(6, 6)", x.best(6, 6), 0);
        Bench.row(x, 1, 2, 1, 2, 0);

        Bench.says(24, "-2: none to 6.");
        Bench.stays(SEVEN, "10000000", "seven", SoundAdvice::beyond, -2);
        Bench.stays(NINTHS, "1000", "ninths", SoundAdvice::beyond, -2);
        Bench.stays(Bench.STONE, "100000000", "stone", SoundAdvice::beyond, -2);
        Bench.stays(Bench.CHICKEN, "1110", "chicken", SoundAdvice::beyond, -2);
        Bench.stays(Bench.FLAT_33, "100000000", "all are plans", SoundAdvice::beyond, -2);
    }
}
