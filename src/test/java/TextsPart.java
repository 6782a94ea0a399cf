import java.util.Arrays;

/** Promises 1 to 6: a new object, and texts. */
final class TextsPart {
    private static final int MIN = Bench.MIN;
    private static final int MAX = Bench.MAX;

    private TextsPart() {
    }

    static void run() {
        newObject();
        sign();
        end();
        game();
        gameFaults();
        advice();
        sheet();
        sheetFaults();
    }

    private static void newObject() {
        Bench.says(1, "Two PLAYERS of two ACTIONS, PAYS 0, no TOKENS.");
        SoundAdvice x = new SoundAdvice();
        int[] counts = {2, 4, 0, 2, 2, 0, 0, 0, 0, 0};
        for (int what = 0; what < counts.length; what++) {
            Bench.due("count(" + what + ")", x.count(what), counts[what]);
        }
        Bench.pays(x, 0, "jjjj");
        Bench.pays(x, 1, "jjjj");
        Bench.tokens(x, "0000");
        Bench.stays(SoundAdvice::new, "undo", SoundAdvice::undo, -1);
        Bench.stays(SoundAdvice::new, "again", y -> y.again(0) ? 1 : 0, 0);
        Bench.stays(SoundAdvice::new, "again", y -> y.again(1) ? 1 : 0, 0);
        Bench.stays(SoundAdvice::new, "mixed", y -> y.mixed(0), -1);
        Bench.stays(SoundAdvice::new, "row", y -> Bench.rowAt(y, 0), Bench.THROWN);
    }

    /** Eighty signs that are a day of 20 acts. */
    private static SoundAdvice fullText() {
        SoundAdvice x = Bench.rich(Bench.CHICKEN, "1110", 8);
        Signs.tell(x, "l0+1l0-1l0+1l0-1l0+1l0-1l0+1l0-1l0+1l0-1l0+1l0-1l0+1l0-1l0+1l0-1l0+1l0-1l0+1l0-1");
        return x;
    }

    private static void sign() {
        Bench.says(2, "Four signs come behind THE TEXT, of v the highest byte first: how many it has.");
        SoundAdvice x = new SoundAdvice();
        for (int i = 1; i <= 20; i++) {
            Bench.due("sign " + i, x.sign(i % 2 == 0 ? MIN + i : -i), 4 * i);
        }
        SoundAdvice y = new SoundAdvice();
        y.sign('1' << 24 | '2' << 16 | '0' << 8 | '3');
        Bench.due("advice()", y.advice(), 6);
        Bench.tokens(y, "1203");
        // the highest bit of each byte: none of these is a digit
        for (int p = 0; p < 4; p++) {
            y.sign('1' << 24 | '1' << 16 | '1' << 8 | '1' | 128 << 24 - 8 * p);
            Bench.due("advice() of a high sign at " + p, y.advice(), -1 - p);
        }
        y.sign(0);
        Bench.due("advice() of signs 0", y.advice(), -1);

        Bench.says(2, "Refused: there would be more than 80.");
        Bench.stays(TextsPart::fullText, "sign at 80", z -> z.sign(0), -1);
        Bench.due("all 80 are there", fullText().day(), 20);
        for (int n = 77; n < 80; n++) {
            int length = n;
            Bench.Made shorter = () -> {
                SoundAdvice z = fullText();
                z.end(length);
                return z;
            };
            Bench.stays(shorter, "sign at " + n, z -> z.sign('m' << 24), -1);
        }
        SoundAdvice w = fullText();
        Bench.due("end(76)", w.end(76), true);
        Bench.due("sign at 76", w.sign('l' << 24 | '3' << 16 | '+' << 8 | '1'), 80);
        Bench.due("day()", w.day(), 20);
        Bench.tokens(w, "2111");
    }

    private static void end() {
        Bench.says(3, "THE TEXT has its first n signs alone: true;");
        SoundAdvice x = new SoundAdvice();
        Bench.due("end(0) of none", x.end(0), true);
        Bench.due("signs", x.count(9), 0);
        Signs.tell(x, "m01m0");
        Bench.due("all", x.end(5), true);
        Bench.due("signs", x.count(9), 5);
        Bench.due("two less", x.end(3), true);
        Bench.due("signs", x.count(9), 3);
        x.lays(0, 1);
        Bench.due("day()", x.day(), 1);
        Signs.tell(x, "m01");
        Bench.due("none", x.end(0), true);
        Bench.due("signs", x.count(9), 0);
        Bench.due("an empty day", x.day(), 0);
        // what was cut off does not come back
        Signs.tell(x, "m10m01");
        x.end(3);
        x.sign('x' << 24);
        Bench.due("day()", x.day(), -4);

        Bench.says(3, "false if it has not so many, or n is below 0.");
        Bench.stays(Bench.CHICKEN, "1110", "end(15)", y -> y.end(15) ? 1 : 0, 1);
        Bench.stays(Bench.CHICKEN, "1110", "end(16)", y -> y.end(16) ? 1 : 0, 0);
        Bench.stays(Bench.CHICKEN, "1110", "end(80)", y -> y.end(80) ? 1 : 0, 0);
        Bench.stays(Bench.CHICKEN, "1110", "end(-1)", y -> y.end(-1) ? 1 : 0, 0);
        Bench.stays(Bench.CHICKEN, "1110", "end(MIN)", y -> y.end(MIN) ? 1 : 0, 0);
        Bench.stays(Bench.CHICKEN, "1110", "end(MAX)", y -> y.end(MAX) ? 1 : 0, 0);
        Bench.stays(SoundAdvice::new, "end(1) of none", y -> y.end(1) ? 1 : 0, 0);
        Bench.stays(TextsPart::fullText, "end(81) of 80", y -> y.end(81) ? 1 : 0, 0);
        Bench.stays(TextsPart::fullText, "end(80) of 80", y -> y.end(80) ? 1 : 0, 1);
    }

    private static void game() {
        Bench.says(4, "THE TEXT is A GAME, all anew (no TOKENS): a digit for each PLAYER (its ACTIONS), then a"
                + " comma, then for each PROFILE a letter a .. s for each PLAYER (its PAY: a -9, j 0, s 9): P.");
        SoundAdvice x = Bench.of(Bench.TRIO, "11111100");
        Bench.due("a smaller one", Bench.play(x, "22,asbrcqdp"), 4);
        Bench.due("players", x.count(0), 2);
        Bench.due("actions of 2", x.count(5), 0);
        Bench.due("T", x.count(2), 0);
        Bench.tokens(x, "0000");
        Bench.pays(x, 0, "abcd");
        Bench.pays(x, 1, "srqp");
        Bench.advise(x, "0006");
        Bench.due("the greatest", Bench.play(x, "33,asbrcqdpeofngmhlik"), 9);
        Bench.tokens(x, "000000000");
        Bench.pays(x, 0, "abcdefghi");
        Bench.pays(x, 1, "srqponmlk");
        Bench.due("three players", Bench.play(x, "222,abcdefghijklmnopqrsjkllm"), 8);
        Bench.pays(x, 0, "adgjmpsl");
        Bench.pays(x, 1, "behknqjl");
        Bench.pays(x, 2, "cfilorkm");
        Bench.due("actions of 2", x.count(5), 2);
        Bench.due("two and three", Bench.play(x, "23,abcdefghijkl"), 6);
        Bench.due("actions of 1", x.count(4), 3);
        Bench.due("three and two", Bench.play(x, "32,abcdefghijkl"), 6);
        Bench.due("actions of 1", x.count(4), 2);
        Bench.due("the same anew", Bench.play(x, "32,abcdefghijkl"), 6);
        Bench.due("what can be undone", x.count(7), 8);
        // tokens of what would be do not come with it either
        SoundAdvice w = Bench.of(Bench.CHICKEN, "1110");
        w.were(0, 0, 9);
        w.range(0, 0);
        w.years(5, 30);
        Bench.play(w, Bench.DILEMMA);
        Bench.tokens(w, "0000");
        Bench.pays(w, 0, "mjok");
        Bench.pays(w, 1, "mojk");
        // tokens behind the last profile of a smaller game do not come back with a greater one
        SoundAdvice y = Bench.of(Bench.FLAT_33, "000000006");
        Bench.play(y, Bench.FLAT_22);
        Bench.play(y, Bench.FLAT_33);
        Bench.tokens(y, "000000000");
        Bench.due("T", y.count(2), 0);
    }

    private static void fault(String text, int answer) {
        Bench.staysReading(Bench.TRIO, "10000002", text, SoundAdvice::game, answer);
    }

    private static void gameFaults() {
        Bench.says(4, "-1 - p: the sign at p can't stand there");
        fault("1", -1);
        fault("4", -1);
        fault(",", -1);
        fault("a", -1);
        fault("21", -2);
        fault("24", -2);
        fault("2a", -2);
        fault("22a", -3);
        fault("22;", -3);
        fault("22,`jjjjjjj", -4);
        fault("22,tjjjjjjj", -4);
        fault("22,Ajjjjjjj", -4);
        fault("22,jjj,jjjj", -7);
        fault("22,jjjjjjjt", -11);
        // a sign behind the last one
        fault("22,jjjjjjjjj", -12);
        fault("22,jjjjjjjj" + (char) 0, -12);
        fault(Bench.FLAT_23 + "j", -16);
        fault(Bench.FLAT_32 + "2", -16);
        fault(Bench.FLAT_33 + "j", -22);
        fault(Bench.FLAT_222 + ",", -29);
        fault((char) 178 + "2,jjjjjjjj", -1);

        Bench.says(4, "(a third digit, if one ahead is 3, or it is none but 2; a fourth one; the comma behind one"
                + " digit; its end, if it ends too early).");
        fault("232,jjjj", -3);
        fault("322,jjjj", -3);
        fault("332,jjjj", -3);
        fault("223,jjjj", -3);
        fault("221,jjjj", -3);
        fault("2222,jjjj", -4);
        fault("2223", -4);
        fault("2,jjjj", -2);
        fault("3,", -2);
        fault("", -1);
        fault("2", -2);
        fault("22", -3);
        fault("23", -3);
        fault("222", -4);
        fault("22,", -4);
        fault("222,", -5);
        fault("22,jjjjjjj", -11);
        fault("23,jjjjjjjjjjj", -15);
        fault("33,jjjjjjjjjjjjjjjjj", -21);
        fault("222,jjjjjjjjjjjjjjjjjjjjjjj", -28);
        // as many letters as the game of one digit less would have
        fault("222,jjjjjjjj", -13);
    }

    private static void advice() {
        Bench.says(5, "THE TEXT is ADVICE: a digit 0 .. 6 for each PROFILE: T.");
        SoundAdvice x = Bench.of(Bench.CHICKEN, "1110");
        Bench.due("6 on the first", Bench.advise(x, "6000"), 6);
        Bench.tokens(x, "6000");
        Bench.due("6 on the last", Bench.advise(x, "0006"), 6);
        Bench.tokens(x, "0006");
        Bench.due("none", Bench.advise(x, "0000"), 0);
        Bench.tokens(x, "0000");
        Bench.due("the same", Bench.advise(x, "0000"), 0);
        Bench.due("what can be undone", x.count(7), 6);
        SoundAdvice y = Bench.of(Bench.FLAT_33);
        Bench.due("of 9", Bench.advise(y, "000000006"), 6);
        Bench.due("of 9", Bench.advise(y, "111000111"), 6);
        Bench.tokens(y, "111000111");
        Bench.due("of 8", Bench.advise(Bench.of(Bench.FLAT_222), "10000005"), 6);
        Bench.due("of 6", Bench.advise(Bench.of(Bench.FLAT_32), "111111"), 6);

        Bench.says(5, "-1 - p: the sign at p can't stand there (one by which there would be more than 6 TOKENS; its"
                + " end, if it ends too early).");
        String[] texts = {"7", "8000", "9000", "0700", "0007", "6100", "6001", "1114", "2221", "3400", "",
            "6", "60", "600", "111", "00000", "11101", "6000 ", "/000", "0:00", "000a", "00,0", "+100", "-100"};
        int[] answers = {-1, -1, -1, -2, -4, -2, -4, -4, -4, -2, -1,
            -2, -3, -4, -4, -5, -5, -5, -1, -2, -4, -3, -1, -1};
        for (int k = 0; k < texts.length; k++) {
            Bench.staysReading(Bench.CHICKEN, "1110", texts[k], SoundAdvice::advice, answers[k]);
        }
        // one less by the last sign is 6 together
        for (String text : new String[] {"6000", "0006", "1113", "2220", "3300"}) {
            Bench.due("advice of " + text, Bench.advise(x, text), 6);
            Bench.tokens(x, text);
        }
        // what was read ahead of a wrong sign is forgotten
        SoundAdvice z = Bench.of(Bench.CHICKEN, "1110");
        String[] wrong = {"60", "050x", "x", "7", "", "0006 "};
        for (String text : wrong) {
            Bench.due("advice of " + text, Bench.advise(z, text) < 0, true);
            Bench.tokens(z, "1110");
        }
        Bench.staysReading(Bench.STONE, "000001000", "00000100", SoundAdvice::advice, -9);
        Bench.staysReading(Bench.STONE, "000001000", "0000000060", SoundAdvice::advice, -10);
        Bench.staysReading(Bench.STONE, "000001000", "000000007", SoundAdvice::advice, -9);
        Bench.staysReading(Bench.STONE, "000001000", "111111100", SoundAdvice::advice, -7);
        Bench.staysReading(Bench.TRIO, "00000100", "000001000", SoundAdvice::advice, -9);
    }

    private static void sheet() {
        Bench.says(6, "PAYS of a PLAYER from PROFILE k on become as a sheet tells, entry by entry: bytes (kind 0),"
                + " shorts (1), ints (2) of n entries f, f + step, .. (as ints; of bytes, shorts the lowest bits,"
                + " with their sign), or a missing one (3): how many are another then.");
        for (int kind = 0; kind < 3; kind++) {
            SoundAdvice x = Bench.of(Bench.FLAT_33);
            Bench.due("all 9", x.sheet(1, 0, kind, 9, -8, 2), 8);
            Bench.pays(x, 1, "bdfhjlnpr");
            Bench.pays(x, 0, "jjjjjjjjj");
            Bench.due("the same", x.sheet(1, 0, kind, 9, -8, 2), 0);
            Bench.due("the last", x.sheet(1, 8, kind, 1, 9, 0), 1);
            Bench.due("the first", x.sheet(1, 0, kind, 1, -9, 5), 1);
            Bench.due("from 3 on, one of them so already", x.sheet(1, 3, kind, 3, 0, 0), 2);
            Bench.pays(x, 1, "adfjjjnps");
            Bench.due("no entry", x.sheet(1, 0, kind, 0, 5, 5), 0);
            Bench.pays(x, 1, "adfjjjnps");
        }
        // by bytes 256 is 0, by shorts it is too great; 65536 by both
        SoundAdvice y = Bench.of(Bench.FLAT_22);
        Bench.due("bytes", y.sheet(0, 0, 0, 4, 247, 6), 4);
        Bench.pays(y, 0, "agms");
        Bench.due("shorts", y.sheet(0, 0, 1, 4, 65536 - 9, 65536 + 6), 0);
        Bench.due("shorts", y.sheet(0, 0, 1, 4, MIN, 32768 * 2 + 1), 4);
        Bench.pays(y, 0, "jklm");
        Bench.due("bytes by the greatest step", y.sheet(0, 0, 0, 4, -6, MAX), 4);
        Bench.pays(y, 0, "dcba");
        Bench.due("ints by a step that goes round", y.sheet(0, 0, 2, 2, MAX, MIN + 1), -4);
        Bench.row(y, 0, 2);
        Bench.due("shorts that go round", y.sheet(0, 0, 1, 2, MAX, 1), 2);
        Bench.pays(y, 0, "ijba");

        Bench.says(6, "Nothing is kept of it that could be undone, nothing changes but if it is done in all.");
        SoundAdvice z = new SoundAdvice();
        Bench.due("sheet", z.sheet(0, 0, 2, 4, 1, 1), 4);
        Bench.due("what can be undone", z.count(7), 0);
        Bench.due("undo()", z.undo(), -1);
        Bench.pays(z, 0, "klmn");
        z.lays(0, 1);
        Bench.due("sheet", z.sheet(0, 0, 2, 1, 9, 0), 1);
        Bench.due("what can be undone", z.count(7), 1);
        Bench.due("undo()", z.undo(), 0);
        Bench.pays(z, 0, "klmn");
        Bench.due("the last entry wrong", z.sheet(0, 0, 2, 4, 7, 1), -4);
        Bench.pays(z, 0, "klmn");
        Bench.due("the last entry too far", z.sheet(0, 1, 2, 4, 7, 0), -4);
        Bench.pays(z, 0, "klmn");
    }

    private static void cantBe(String game, int[] asked, long entry, long why) {
        String told = "sheet" + Arrays.toString(asked);
        SoundAdvice x = Bench.rich(game, "0".repeat(Bench.of(game).count(1)), 8);
        String pays = "";
        for (int p = 0; p < x.count(1); p++) {
            pays += (char) ('a' + x.of(p, 4));
        }
        Bench.due(told, x.sheet(0, asked[0], asked[1], asked[2], asked[3], asked[4]), -4);
        Bench.row(x, entry, why);
        Bench.pays(x, 0, pays);
        Bench.due("what can be undone", x.count(7), 8);
        Bench.due("signs", x.count(9), 15);
    }

    private static void sheetFaults() {
        Bench.says(6, "-2: n below 0;");
        for (int kind = 0; kind < 3; kind++) {
            int k = kind;
            Bench.stays(Bench.CHICKEN, "1110", "n -1", x -> x.sheet(0, 0, k, -1, 0, 0), -2);
            Bench.stays(Bench.CHICKEN, "1110", "n MIN", x -> x.sheet(1, 9, k, MIN, 99, 0), -2);
            Bench.stays(Bench.CHICKEN, "1110", "n 0", x -> x.sheet(0, 0, k, 0, 0, 0), 0);
            Bench.stays(Bench.CHICKEN, "1110", "n 0 at no profile", x -> x.sheet(0, 9, k, 0, 99, 0), 0);
        }

        Bench.says(6, "-3: missing (whatever n is);");
        for (int n : new int[] {MIN, -1, 0, 1, 4, 9}) {
            Bench.stays(Bench.CHICKEN, "1110", "missing of " + n, x -> x.sheet(0, 0, 3, n, 0, 0), -3);
            Bench.stays(Bench.CHICKEN, "1110", "missing of " + n, x -> x.sheet(1, -1, 3, n, 99, 99), -3);
        }

        Bench.says(6, "-4: an entry can't be (the ROW: which entry; 1 there is no such PROFILE, 2 it is not -9 .. 9;"
                + " the first such one; of one the first of these).");
        cantBe(Bench.FLAT_22, new int[] {-1, 2, 1, 0, 0}, 0, 1);
        cantBe(Bench.FLAT_22, new int[] {4, 2, 1, 0, 0}, 0, 1);
        cantBe(Bench.FLAT_22, new int[] {3, 2, 2, 0, 0}, 1, 1);
        cantBe(Bench.FLAT_22, new int[] {0, 2, 5, 0, 0}, 4, 1);
        cantBe(Bench.FLAT_222, new int[] {0, 0, 9, 0, 0}, 8, 1);
        cantBe(Bench.FLAT_33, new int[] {1, 1, 9, 0, 0}, 8, 1);
        cantBe(Bench.FLAT_22, new int[] {MAX, 2, 9, 0, 0}, 0, 1);
        cantBe(Bench.FLAT_22, new int[] {MIN, 2, 9, 0, 0}, 0, 1);
        cantBe(Bench.FLAT_22, new int[] {-2, 2, 9, 0, 0}, 0, 1);
        cantBe(Bench.FLAT_22, new int[] {0, 2, 1, 10, 0}, 0, 2);
        cantBe(Bench.FLAT_22, new int[] {0, 2, 1, -10, 0}, 0, 2);
        cantBe(Bench.FLAT_22, new int[] {0, 2, 4, 7, 1}, 3, 2);
        cantBe(Bench.FLAT_22, new int[] {0, 2, 4, -8, -1}, 2, 2);
        cantBe(Bench.FLAT_22, new int[] {0, 0, 1, 128, 0}, 0, 2);
        cantBe(Bench.FLAT_22, new int[] {0, 0, 1, 246, 0}, 0, 2);
        cantBe(Bench.FLAT_22, new int[] {0, 1, 1, 256, 0}, 0, 2);
        cantBe(Bench.FLAT_22, new int[] {0, 1, 1, 32768, 0}, 0, 2);
        cantBe(Bench.FLAT_22, new int[] {0, 2, 1, 65536, 0}, 0, 2);
        cantBe(Bench.FLAT_22, new int[] {0, 2, 2, 9, MAX}, 1, 2);
        // of several the first, of both the profile
        cantBe(Bench.FLAT_22, new int[] {3, 2, 2, 10, 0}, 0, 2);
        cantBe(Bench.FLAT_22, new int[] {3, 2, 2, 9, 1}, 1, 1);
        cantBe(Bench.FLAT_22, new int[] {4, 2, 1, 10, 0}, 0, 1);

        Bench.says(6, "NONE: no such PLAYER, another kind, n above 9 (these first).");
        int[][] none = {{2, 0, 2, 1, 0, 0}, {-1, 0, 2, 1, 0, 0}, {MIN, 0, 2, 1, 0, 0}, {MAX, 0, 2, 1, 0, 0},
            {0, 0, 4, 1, 0, 0}, {0, 0, -1, 1, 0, 0}, {0, 0, MIN, 1, 0, 0}, {0, 0, MAX, 1, 0, 0},
            {0, 0, 2, 10, 0, 0}, {0, 0, 0, 10, 0, 0}, {0, 0, 1, MAX, 0, 0},
            {2, 0, 2, -1, 0, 0}, {2, 0, 3, 1, 0, 0}, {2, 0, 2, 1, 10, 0}, {2, -1, 2, 1, 0, 0},
            {0, 0, 4, -1, 0, 0}, {0, -1, 4, 1, 10, 0}, {0, 0, 3, 10, 0, 0}, {0, -1, 2, 10, 10, 0}};
        for (int[] a : none) {
            Bench.stays(Bench.CHICKEN, "1110", "sheet" + Arrays.toString(a),
                    x -> x.sheet(a[0], a[1], a[2], a[3], a[4], a[5]), -1);
        }
        Bench.due("player 2 of three", Bench.of(Bench.TRIO).sheet(2, 0, 2, 1, 5, 0), 1);
        Bench.stays(Bench.TRIO, "00000000", "player 3 of three", x -> x.sheet(3, 0, 2, 1, 5, 0), -1);
    }
}
