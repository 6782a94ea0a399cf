import java.util.Arrays;
import java.util.NoSuchElementException;

/** Each promise of the document by answers worked out by hand: the ordinary, the edges, the refused. */
public final class PromisesTest {
    private static final int MIN = Integer.MIN_VALUE;
    private static final int MAX = Integer.MAX_VALUE;
    /** Pays (6,6) (2,7) (7,2) (0,0). */
    private static final String CHICKEN = "22,pplqqljj";
    /** Pays (1,-1) (-1,1) (-1,1) (1,-1). */
    private static final String PENNIES = "22,kiikikki";
    /** Pays (3,3) (0,5) (5,0) (1,1). */
    private static final String DILEMMA = "22,mmjoojkk";
    /** Stone, paper, scissors. */
    private static final String STONE = "33,jjikkikijjikikkijj";
    /** Each has 2, if all three do the same. */
    private static final String TRIO = "222,llljjjjjjjjjjjjjjjjjjlll";
    private static final String FLAT_33 = "33,jjjjjjjjjjjjjjjjjj";
    private static final String FLAT_222 = "222,jjjjjjjjjjjjjjjjjjjjjjjj";

    private static int promise;
    private static int wrong;
    private static int checks;

    private static void due(String call, long got, long want) {
        checks++;
        if (got != want) {
            wrong++;
            System.out.println("promise " + promise + ": " + call + " answered " + got + ", due is " + want);
        }
    }

    private static void due(String call, boolean got, boolean want) {
        due(call, got ? 1 : 0, want ? 1 : 0);
    }

    private static void row(SoundAdvice x, long... want) {
        long[] got = new long[Math.max(0, x.count(8))];
        for (int i = 0; i < got.length; i++) {
            got[i] = x.row(i);
        }
        checks++;
        if (!Arrays.equals(got, want)) {
            wrong++;
            System.out.println("promise " + promise + ": the row is " + Arrays.toString(got) + ", due is "
                    + Arrays.toString(want));
        }
    }

    private static SoundAdvice of(String game) {
        SoundAdvice x = new SoundAdvice();
        Signs.tell(x, game);
        if (x.game() < 0) {
            throw new IllegalStateException(game);
        }
        return x;
    }

    private static SoundAdvice of(String game, String advice) {
        SoundAdvice x = of(game);
        due("advice " + advice, advise(x, advice), advice.chars().map(c -> c - '0').sum());
        return x;
    }

    private static int advise(SoundAdvice x, String advice) {
        Signs.tell(x, advice);
        return x.advice();
    }

    private static int live(SoundAdvice x, String day) {
        Signs.tell(x, day);
        return x.day();
    }

    private static int gameAnswer(String text) {
        SoundAdvice x = new SoundAdvice();
        Signs.tell(x, text);
        return x.game();
    }

    private static boolean throwsOf(SoundAdvice x, int profile, int what) {
        try {
            x.of(profile, what);
            return false;
        } catch (NoSuchElementException e) {
            return true;
        }
    }

    private static boolean throwsRow(SoundAdvice x, int i) {
        try {
            x.row(i);
            return false;
        } catch (NoSuchElementException e) {
            return true;
        }
    }

    private static void tokens(SoundAdvice x, String want) {
        for (int p = 0; p < want.length(); p++) {
            due("of(" + p + ", 3)", x.of(p, 3), want.charAt(p) - '0');
        }
    }

    /** Leaves the row of values(), to see whether a call lets it stay. */
    private static void markRow(SoundAdvice x) {
        x.values();
    }

    private static void newObject() {
        promise = 1;
        SoundAdvice x = new SoundAdvice();
        int[] counts = {2, 4, 0, 2, 2, 0, 0, 0, 0, 0};
        for (int what = 0; what < counts.length; what++) {
            due("count(" + what + ")", x.count(what), counts[what]);
        }
        for (int p = 0; p < 4; p++) {
            due("of(" + p + ", 3)", x.of(p, 3), 0);
            due("of(" + p + ", 4)", x.of(p, 4), 9);
            due("of(" + p + ", 5)", x.of(p, 5), 9);
        }
        due("again(0)", x.again(0), false);
        due("undo()", x.undo(), -1);
        due("NONE", SoundAdvice.NONE, -1);
    }

    private static void sign() {
        promise = 2;
        SoundAdvice x = new SoundAdvice();
        for (int i = 1; i <= 20; i++) {
            due("sign " + i, x.sign(-i), 4 * i);
        }
        due("sign 21", x.sign(0), -1);
        due("count(9)", x.count(9), 80);
        due("end(77)", x.end(77), true);
        due("sign of 77", x.sign(0), -1);
        due("end(76)", x.end(76), true);
        due("sign of 76", x.sign(0), 80);
        SoundAdvice y = new SoundAdvice();
        y.sign('1' << 24 | '2' << 16 | '0' << 8 | '3');
        due("advice()", y.advice(), 6);
        tokens(y, "1203");
    }

    private static void end() {
        promise = 3;
        SoundAdvice x = new SoundAdvice();
        due("end(0)", x.end(0), true);
        due("end(1)", x.end(1), false);
        x.sign('1' << 24 | '2' << 16 | '0' << 8 | '3');
        due("end(5)", x.end(5), false);
        due("end(-1)", x.end(-1), false);
        due("end(MIN)", x.end(MIN), false);
        due("end(MAX)", x.end(MAX), false);
        due("count(9)", x.count(9), 4);
        due("end(4)", x.end(4), true);
        due("end(3)", x.end(3), true);
        due("count(9)", x.count(9), 3);
        x.sign('1' << 24);
        due("end(4)", x.end(4), true);
        due("advice()", x.advice(), 4);
        tokens(x, "1201");
    }

    private static void game() {
        promise = 4;
        String[] texts = {CHICKEN, "23,aaaabbbbcccc", "32,ssssaaaajjjj", STONE, TRIO, "", "1", "2", "2,", "22", "4",
            "20", "223", "224", "232", "322", "332", "222", "2222", "2223", "22a", "22,", "22,t", "22,`", "22,A",
            "22,jjjjjjj", "22,jjjjjjjt", CHICKEN + "j", CHICKEN + (char) 0, FLAT_33 + ",", FLAT_222 + "j",
            "222,jjjj,", (char) 255 + "2"};
        int[] answers = {4, 6, 6, 9, 8, -1, -1, -2, -2, -3, -1,
            -2, -3, -3, -3, -3, -3, -4, -4, -4, -3, -4, -4, -4, -4,
            -11, -11, -12, -12, -22, -29,
            -9, -1};
        for (int i = 0; i < texts.length; i++) {
            due("game() of " + texts[i], gameAnswer(texts[i]), answers[i]);
        }
        SoundAdvice x = of(CHICKEN, "1110");
        Signs.tell(x, "32,asjjjjjjjjjk");
        due("game()", x.game(), 6);
        int[] counts = {2, 6, 0, 3, 2, 0, 0, 3, 0, 0};
        for (int what = 0; what < counts.length; what++) {
            due("count(" + what + ")", x.count(what), counts[what]);
        }
        due("of(0, 4)", x.of(0, 4), 0);
        due("of(0, 5)", x.of(0, 5), 18);
        due("of(5, 4)", x.of(5, 4), 9);
        due("of(5, 5)", x.of(5, 5), 10);
        advise(x, "100002");
        Signs.tell(x, "22,jj");
        due("game()", x.game(), -6);
        due("count(9)", x.count(9), 0);
        due("count(1)", x.count(1), 6);
        due("count(7)", x.count(7), 4);
        tokens(x, "100002");
        due("count(5)", of(TRIO).count(5), 2);
    }

    private static void advice() {
        promise = 5;
        SoundAdvice x = of(CHICKEN, "1110");
        String[] texts = {"7", "", "34", "111", "11111", "6001", "006001", "0007", "6", "1a11", "1/11", "1:11", "9000",
            "0000 "};
        int[] answers = {-1, -1, -2, -4, -5, -4, -5, -4, -2, -2, -2, -2, -1, -5};
        for (int i = 0; i < texts.length; i++) {
            due("advice() of " + texts[i], advise(x, texts[i]), answers[i]);
            due("count(9)", x.count(9), 0);
            due("count(7)", x.count(7), 2);
            tokens(x, "1110");
        }
        due("advice() of 6000", advise(x, "6000"), 6);
        due("advice() of 0006", advise(x, "0006"), 6);
        due("advice() of 1212", advise(x, "1212"), 6);
        tokens(x, "1212");
        due("advice() of 1212", advise(x, "1212"), 6);
        due("count(7)", x.count(7), 6);
        due("advice() of 0000", advise(x, "0000"), 0);
        due("count(2)", x.count(2), 0);
        due("advice() of STONE", advise(of(STONE), "000000006"), 6);
    }

    private static void sheet() {
        promise = 6;
        SoundAdvice x = of(CHICKEN);
        due("bytes", x.sheet(1, 0, 0, 4, 250, 3), 4);
        for (int p = 0; p < 4; p++) {
            due("of(" + p + ", 5)", x.of(p, 5), 3 + 3 * p);
        }
        due("the same", x.sheet(1, 0, 0, 4, 250, 3), 0);
        due("one another", x.sheet(1, 1, 2, 2, -3, 4), 1);
        due("of(2, 5)", x.of(2, 5), 10);
        due("shorts", x.sheet(0, 3, 1, 1, 65541, 0), 1);
        due("of(3, 4)", x.of(3, 4), 14);
        due("ints", x.sheet(0, 3, 2, 1, 65541, 0), -4);
        row(x, 0, 2);
        due("shorts", x.sheet(0, 3, 1, 1, 40000, 0), -4);
        row(x, 0, 2);
        due("as ints", x.sheet(0, 0, 2, 3, -2, MAX), -4);
        row(x, 1, 2);
        due("as ints", x.sheet(0, 0, 0, 3, -2, MAX), 3);
        due("of(0, 4)", x.of(0, 4), 7);
        due("of(1, 4)", x.of(1, 4), 6);
        due("of(2, 4)", x.of(2, 4), 5);
        due("too far", x.sheet(0, 2, 2, 4, 9, 0), -4);
        row(x, 2, 1);
        due("of(2, 4)", x.of(2, 4), 5);
        due("both", x.sheet(0, 3, 2, 2, 9, 1), -4);
        row(x, 1, 1);
        due("the first", x.sheet(0, 3, 2, 2, 10, 1), -4);
        row(x, 0, 2);
        due("k -1", x.sheet(0, -1, 2, 1, 0, 0), -4);
        row(x, 0, 1);
        due("k MAX", x.sheet(0, MAX, 2, 9, 0, 0), -4);
        row(x, 0, 1);
        x.sound();
        due("n 0", x.sheet(0, -5, 2, 0, 99, 0), 0);
        due("n -1", x.sheet(0, 0, 2, -1, 0, 0), -2);
        due("n MIN", x.sheet(0, 0, 0, MIN, 0, 0), -2);
        due("missing", x.sheet(0, 0, 3, -1, 0, 0), -3);
        due("missing", x.sheet(0, 0, 3, 9, 0, 0), -3);
        due("missing", x.sheet(0, 0, 3, 10, 0, 0), -1);
        due("n 10", x.sheet(0, 0, 2, 10, 0, 0), -1);
        due("kind 4", x.sheet(0, 0, 4, 1, 0, 0), -1);
        due("kind -1", x.sheet(0, 0, -1, -1, 0, 0), -1);
        due("player 2", x.sheet(2, 0, 3, -1, 0, 0), -1);
        due("player -1", x.sheet(-1, 0, 2, 1, 0, 0), -1);
        row(x, 0, 0, 0, 1);
        due("count(7)", x.count(7), 1);
        // three of them are so already
        due("of all 9", of(STONE).sheet(1, 0, 1, 9, -4, 1), 6);
        x.pays(0, 0, 9);
        x.sheet(0, 0, 2, 2, 1, 1);
        due("undo()", x.undo(), 1);
        due("of(0, 4)", x.of(0, 4), 7);
        due("of(1, 4)", x.of(1, 4), 6);
    }

    private static void profile() {
        promise = 7;
        SoundAdvice x = of("23,jjjjjjjjjjjj");
        due("profile(0, 0, -1)", x.profile(0, 0, -1), 0);
        due("profile(0, 2, -1)", x.profile(0, 2, -1), 2);
        due("profile(1, 0, -1)", x.profile(1, 0, -1), 3);
        due("profile(1, 2, -1)", x.profile(1, 2, -1), 5);
        due("profile(2, 0, -1)", x.profile(2, 0, -1), -1);
        due("profile(0, 3, -1)", x.profile(0, 3, -1), -1);
        due("profile(-1, 0, -1)", x.profile(-1, 0, -1), -1);
        due("profile(0, -1, -1)", x.profile(0, -1, -1), -1);
        due("profile(0, 0, 0)", x.profile(0, 0, 0), -1);
        due("profile(0, 0, -2)", x.profile(0, 0, -2), -1);
        SoundAdvice y = of(TRIO);
        due("profile(1, 0, 1)", y.profile(1, 0, 1), 5);
        due("profile(0, 1, 1)", y.profile(0, 1, 1), 3);
        due("profile(0, 0, -1)", y.profile(0, 0, -1), -1);
        due("profile(0, 0, 2)", y.profile(0, 0, 2), -1);
    }

    private static void ofWhat() {
        promise = 8;
        SoundAdvice x = of("23,asjjjjjjjjjk", "000402");
        due("of(5, 0)", x.of(5, 0), 1);
        due("of(5, 1)", x.of(5, 1), 2);
        due("of(3, 1)", x.of(3, 1), 0);
        due("of(3, 3)", x.of(3, 3), 4);
        due("of(0, 4)", x.of(0, 4), 0);
        due("of(0, 5)", x.of(0, 5), 18);
        due("of(5, 5)", x.of(5, 5), 10);
        int[][] none = {{6, 0}, {-1, 0}, {6, 3}, {-1, 3}, {0, 2}, {0, 6}, {0, 7}, {0, -1}, {MIN, 4}, {MAX, 4}, {0, MIN},
            {0, MAX}};
        for (int[] one : none) {
            due("of(" + one[0] + ", " + one[1] + ") throws", throwsOf(x, one[0], one[1]), true);
        }
        SoundAdvice y = of(TRIO);
        due("of(6, 0)", y.of(6, 0), 1);
        due("of(6, 1)", y.of(6, 1), 1);
        due("of(6, 2)", y.of(6, 2), 0);
        due("of(7, 6)", y.of(7, 6), 11);
        due("of(8, 0) throws", throwsOf(y, 8, 0), true);
    }

    private static void gain() {
        promise = 9;
        SoundAdvice x = of(CHICKEN, "1110");
        due("gain(0, 0, 1)", x.gain(0, 0, 1), 0);
        row(x, -1);
        advise(x, "3011");
        due("gain(0, 0, 1)", x.gain(0, 0, 1), 0);
        row(x, 3);
        due("gain(0, 1, 0)", x.gain(0, 1, 0), 0);
        row(x, 1);
        due("gain(1, 0, 1)", x.gain(1, 0, 1), 0);
        row(x, 1);
        due("gain(1, 1, 0)", x.gain(1, 1, 0), 0);
        row(x, 2);
        int[][] none = {{0, 0, 0}, {0, 1, 1}, {2, 0, 1}, {-1, 0, 1}, {0, 2, 1}, {0, 0, 2}, {0, -1, 0}, {0, 0, -1}};
        for (int[] one : none) {
            due("gain" + Arrays.toString(one), x.gain(one[0], one[1], one[2]), -1);
        }
        row(x, 2);
        SoundAdvice y = of(TRIO, "01000001");
        due("gain(2, 1, 0)", y.gain(2, 1, 0), 0);
        row(y, 0);
        advise(y, "02000001");
        due("gain(2, 1, 0)", y.gain(2, 1, 0), 0);
        row(y, 2);
    }

    private static void sound() {
        promise = 10;
        SoundAdvice x = of(STONE, "100000000");
        due("sound()", x.sound(), 0);
        row(x, 1, 0, 0, 1);
        advise(x, "010000000");
        due("sound()", x.sound(), 0);
        row(x, 2, 0, 0, 2);
        advise(x, "000100000");
        due("sound()", x.sound(), 0);
        row(x, 2, 1, 0, 2);
        advise(x, "000000000");
        due("sound()", x.sound(), 1);
        row(x, 0, 0, 0, 1);
        SoundAdvice y = of(CHICKEN, "1110");
        due("sound()", y.sound(), 1);
        row(y, -1, 0, 0, 1);
        advise(y, "0100");
        due("sound()", y.sound(), 1);
        row(y, 0, 0, 1, 0);
    }

    private static void tight() {
        promise = 11;
        SoundAdvice x = of(CHICKEN, "0100");
        markRow(x);
        due("tight()", x.tight(), 0);
        row(x);
        SoundAdvice y = of(FLAT_33, "000010000");
        due("tight()", y.tight(), 4);
        row(y, 10, 12, 110, 112);
        advise(y, "100000001");
        due("tight()", y.tight(), 8);
        row(y, 1, 2, 20, 21, 101, 102, 120, 121);
        SoundAdvice z = of(TRIO, "01000001");
        due("tight()", z.tight(), 3);
        row(z, 1, 101, 210);
    }

    private static void hangs() {
        promise = 12;
        SoundAdvice x = of(CHICKEN);
        due("hangs(0)", x.hangs(0), 7);
        row(x, 2, 1);
        due("hangs(1)", x.hangs(1), 7);
        row(x, 1, 0);
        due("hangs(2)", x.hangs(2), -1);
        due("hangs(-1)", x.hangs(-1), -1);
        row(x, 1, 0);
        SoundAdvice y = of(TRIO);
        due("hangs(0)", y.hangs(0), 2);
        row(y, 0, 1);
        due("hangs(1)", y.hangs(1), 2);
        row(y, 0, 0);
        due("hangs(2)", y.hangs(2), 2);
        row(y, 0, 0);
        y.pays(0, 6, -3);
        due("hangs(0)", y.hangs(0), 5);
        row(y, 6, 2);
        SoundAdvice z = of("23,ajsjjjjjjjjj");
        due("hangs(0)", z.hangs(0), 18);
        row(z, 0, 1);
    }

    private static void values() {
        promise = 13;
        SoundAdvice x = of(CHICKEN, "0100");
        due("values()", x.values(), 1);
        row(x, 2, 7, 9, 2);
        advise(x, "1230");
        due("values()", x.values(), 6);
        row(x, 31, 26, 57, 26);
        SoundAdvice y = of(TRIO, "21000000");
        y.pays(2, 1, -9);
        due("values()", y.values(), 3);
        row(y, 4, 4, -5, 3, -5);
    }

    private static void map() {
        promise = 14;
        SoundAdvice x = of(CHICKEN, "3000");
        due("map(0)", x.map(0), 0);
        row(x, 1, 0, 3);
        advise(x, "1110");
        due("map(0)", x.map(0), 2);
        row(x, 0, 1, 0);
        due("map(2)", x.map(2), -1);
        due("map(-1)", x.map(-1), -1);
        row(x, 0, 1, 0);
        SoundAdvice y = of(STONE, "111000000");
        due("map(0)", y.map(0), 1);
        row(y, 0, 0, 0, 0);
        due("map(1)", y.map(1), 1);
        row(y, 1, 1, 1, 3);
    }

    private static void corner() {
        promise = 15;
        SoundAdvice x = of(CHICKEN, "1110");
        due("corner()", x.corner(), 1);
        row(x, 0);
        advise(x, "0200");
        due("corner()", x.corner(), 1);
        row(x, 1);
        advise(x, "0110");
        due("corner()", x.corner(), 0);
        row(x, 0);
        markRow(x);
        advise(x, "1000");
        due("corner()", x.corner(), -2);
        advise(x, "0000");
        due("corner()", x.corner(), -2);
        row(x, 9, 9, 18, 9);
        SoundAdvice y = of("22,jjjjjjjj", "1111");
        due("corner()", y.corner(), 0);
        row(y, 1);
        SoundAdvice z = of(FLAT_222, "11110000");
        due("corner()", z.corner(), 0);
        row(z, 1);
        advise(z, "10000001");
        due("corner()", z.corner(), 0);
        row(z, 0);
        SoundAdvice w = of(PENNIES, "1111");
        due("corner()", w.corner(), 1);
        row(w, 1);
    }

    private static void plans() {
        promise = 16;
        SoundAdvice x = of(DILEMMA);
        due("plans()", x.plans(), 1);
        row(x, 3, 2);
        SoundAdvice y = of(PENNIES);
        markRow(y);
        due("plans()", y.plans(), 0);
        row(y);
        SoundAdvice z = of(TRIO);
        due("plans()", z.plans(), 2);
        row(z, 0, 6, 7, 6);
        due("plans()", of(FLAT_33).plans(), 9);
    }

    private static void sure() {
        promise = 17;
        SoundAdvice x = of(CHICKEN);
        due("sure(0)", x.sure(0), 0);
        row(x, 2);
        SoundAdvice y = of(DILEMMA);
        due("sure(1)", y.sure(1), 1);
        row(y, 1);
        due("sure(2)", y.sure(2), -1);
        due("sure(-1)", y.sure(-1), -1);
        row(y, 1);
        SoundAdvice z = of(STONE);
        due("sure(0)", z.sure(0), 0);
        row(z, -1);
        SoundAdvice w = of("22,ssssssss");
        due("sure(0)", w.sure(0), 0);
        row(w, 9);
    }

    private static void left() {
        promise = 18;
        SoundAdvice x = of(DILEMMA);
        due("left()", x.left(), 2);
        row(x, 2, 2, 0, 10);
        SoundAdvice y = of(CHICKEN);
        due("left()", y.left(), 4);
        row(y, 3, 3);
        // pays of 0: (1 1 0) (0 0 3) (-1 -1 -1); of 1: (2 1 1) (2 0 1) (0 5 5)
        SoundAdvice z = of("33," + "kl" + "kk" + "jk" + "jl" + "jj" + "mk" + "ij" + "io" + "io");
        due("left()", z.left(), 2);
        row(z, 1, 1, 2, 11, 12, 1);
        SoundAdvice w = of(TRIO);
        due("left()", w.left(), 6);
        row(w, 3, 3, 3);
    }

    private static void list() {
        promise = 19;
        SoundAdvice x = of(PENNIES);
        due("list(4)", x.list(4), 1);
        row(x, 1, 1);
        due("list(1)", x.list(1), 0);
        row(x, 0, 0);
        SoundAdvice y = of(CHICKEN);
        due("list(3)", y.list(3), 5);
        row(y, 3, 2);
        due("list(0)", y.list(0), -1);
        due("list(5)", y.list(5), -1);
        due("list(-1)", y.list(-1), -1);
        row(y, 3, 2);
        SoundAdvice z = of("22,jjjjjjjj");
        due("list(2)", z.list(2), 10);
        row(z, 4, 8);
        due("list(4) of 9", of(FLAT_33).list(4), 495);
    }

    private static void best() {
        promise = 20;
        SoundAdvice x = of(CHICKEN);
        due("best(3, 0)", x.best(3, 0), 0);
        row(x, 1, 1, 1, 0, 30);
        due("best(3, 1)", x.best(3, 1), 1);
        row(x, 0, 3, 0, 0, 27);
        due("best(3, 2)", x.best(3, 2), 0);
        row(x, 1, 1, 1, 0, 15);
        due("best(3, 3)", x.best(3, 3), 4);
        row(x, 0, 0, 3, 0, 21);
        due("best(3, 4)", x.best(3, 4), 1);
        row(x, 0, 3, 0, 0, 21);
        due("best(3, 6)", x.best(3, 6), 0);
        row(x, 1, 1, 1, 0, 2);
        due("best(3, 7)", x.best(3, 7), 0);
        row(x, 1, 1, 1, 0, 3);
        int[][] none = {{3, 5}, {3, 8}, {3, -1}, {0, 0}, {7, 0}, {-1, 0}, {MAX, 0}, {3, MIN}};
        for (int[] one : none) {
            due("best" + Arrays.toString(one), x.best(one[0], one[1]), -1);
        }
        row(x, 1, 1, 1, 0, 3);
        SoundAdvice y = of(PENNIES);
        markRow(y);
        due("best(3, 0)", y.best(3, 0), -2);
        due("best(3, 5)", y.best(3, 5), -1);
        row(y, 0, 0, 0, 0);
        SoundAdvice z = of(DILEMMA);
        due("best(6, 6)", z.best(6, 6), 0);
        row(z, 0, 0, 0, 6, 6);
        SoundAdvice w = of(TRIO);
        due("best(1, 5)", w.best(1, 5), 0);
        row(w, 1, 0, 0, 0, 0, 0, 0, 0, 2);
        // ahead of 111111000: 495 + 120 + 28 + 6 + 1 that have more at the first unlike place
        due("best(6, 7) of 9", of(FLAT_33).best(6, 7), 650);
    }

    private static void number() {
        promise = 21;
        SoundAdvice x = of(CHICKEN);
        due("number(3, 0)", x.number(3, 0), 3);
        row(x, 1, 1, 1, 0);
        due("number(3, 2)", x.number(3, 2), 2);
        row(x, 0, 2, 1, 0);
        due("number(3, 4)", x.number(3, 4), 1);
        row(x, 0, 0, 3, 0);
        int[][] none = {{3, 5}, {3, -1}, {0, 0}, {7, 0}, {3, MAX}, {3, MIN}, {MIN, 0}};
        for (int[] one : none) {
            due("number" + Arrays.toString(one), x.number(one[0], one[1]), -1);
        }
        row(x, 0, 0, 3, 0);
        SoundAdvice y = of(FLAT_33);
        due("number(6, 3002)", y.number(6, 3002), 1);
        row(y, 0, 0, 0, 0, 0, 0, 0, 0, 6);
        due("number(6, 3003)", y.number(6, 3003), -1);
        due("number(6, 1)", y.number(6, 1), 2);
        row(y, 5, 1, 0, 0, 0, 0, 0, 0, 0);
    }

    private static void which() {
        promise = 22;
        SoundAdvice x = of(CHICKEN, "0210");
        markRow(x);
        due("which()", x.which(), 2);
        advise(x, "0030");
        due("which()", x.which(), 4);
        advise(x, "1000");
        due("which()", x.which(), -2);
        advise(x, "0000");
        due("which()", x.which(), -2);
        row(x, 11, 16, 27, 11);
        due("which() of 9", of(FLAT_33, "000000006").which(), 3002);
    }

    private static void near() {
        promise = 23;
        SoundAdvice x = of(CHICKEN);
        due("near(3, 0)", x.near(3, 0), 2);
        row(x, 2);
        due("near(3, 1)", x.near(3, 1), 1);
        row(x, 2);
        due("near(3, 2)", x.near(3, 2), 3);
        row(x, 0);
        int[][] none = {{3, 5}, {3, -1}, {0, 0}, {7, 0}, {3, MAX}};
        for (int[] one : none) {
            due("near" + Arrays.toString(one), x.near(one[0], one[1]), -1);
        }
        row(x, 0);
        SoundAdvice y = of(PENNIES);
        due("near(4, 0)", y.near(4, 0), 0);
        row(y, -1);
        due("near(3, 0)", y.near(3, 0), -1);
    }

    private static void beyond() {
        promise = 24;
        SoundAdvice x = of(PENNIES);
        due("beyond()", x.beyond(), 4);
        row(x, 1);
        SoundAdvice y = of(CHICKEN);
        markRow(y);
        due("beyond()", y.beyond(), -2);
        due("beyond()", of(STONE).beyond(), -2);
        row(y, 0, 0, 0, 0);
    }

    private static void play() {
        promise = 25;
        SoundAdvice x = of(CHICKEN);
        due("play(0, 1, 0, 3)", x.play(0, 1, 0, 3), 2);
        row(x, 0, 2, 3, 1, 2);
        due("play(1, 7, 0, 2)", x.play(1, 7, 0, 2), 2);
        row(x, 0, 1, 3, 1, 2);
        // draws of 1, 1, 3, 3 by seed 1: 16838, 38526, 10113 and 50283 leave 0 each
        due("play(1, 1, 0, 3)", x.play(1, 1, 0, 3), 2);
        row(x, 0, 2, 3, 1, 2);
        due("play(1, 1, 2, 60)", x.play(1, 1, 2, 60), 1);
        row(x, 2, 60, 0);
        int[][] none = {{2, 0, 0, 1}, {-1, 0, 0, 1}, {0, 0, 4, 1}, {0, 0, -1, 1}, {0, 0, 0, 0}, {1, 0, 0, 61},
            {1, 0, 0, MAX}};
        for (int[] one : none) {
            due("play" + Arrays.toString(one), x.play(one[0], one[1], one[2], one[3]), -1);
        }
        row(x, 2, 60, 0);
        SoundAdvice y = of(DILEMMA);
        due("play(0, 0, 0, 60)", y.play(0, 0, 0, 60), 2);
        row(y, 0, 1, 3, 59, 2);
    }

    private static void calm() {
        promise = 26;
        SoundAdvice x = of(DILEMMA);
        markRow(x);
        // the most regret is 2 for ever
        int[][] due = {{0, -2}, {1, 20}, {3, 7}, {5, 4}, {10, 2}, {19, 2}, {20, 1}, {30, 1}};
        for (int[] one : due) {
            due("calm by " + one[0], x.calm(0, 0, 0, one[0]), one[1]);
            due("calm by " + one[0] + ", rule 1", x.calm(1, 5, 0, one[0]), one[1]);
        }
        due("calm from 3 by 0", x.calm(0, 0, 3, 0), 1);
        int[][] none = {{2, 0, 0, 1}, {-1, 0, 0, 1}, {0, 0, 4, 1}, {0, 0, -1, 1}, {0, 0, 0, -1}, {1, 0, 0, 31}};
        for (int[] one : none) {
            due("calm" + Arrays.toString(one), x.calm(one[0], one[1], one[2], one[3]), -1);
        }
        row(x, 0, 0, 0, 0);
        // 6 for ever: behind the last round alone; 7: never
        due("calm at 60", of("22,jjjppjkk").calm(0, 0, 0, 1), 60);
        due("calm never", of("22,jjjqqjkk").calm(0, 0, 0, 1), -2);
    }

    private static void mixed() {
        promise = 27;
        SoundAdvice x = of(CHICKEN, "0100");
        due("mixed(0)", x.mixed(0), -1);
        x.keep(0);
        advise(x, "0010");
        due("mixed(0)", x.mixed(0), 1);
        row(x, 18, 2);
        advise(x, "6000");
        due("mixed(0)", x.mixed(0), 0);
        row(x, 81, 7);
        x.keep(1);
        due("mixed(1)", x.mixed(1), 0);
        row(x, 144, 12);
        tokens(x, "6000");
        due("mixed(2)", x.mixed(2), -1);
        due("mixed(-1)", x.mixed(-1), -1);
        Signs.tell(x, FLAT_33);
        x.game();
        due("mixed(0)", x.mixed(0), -1);
        row(x, 144, 12);
        SoundAdvice y = of("23,jjjjjjjjjjjj", "100000");
        y.keep(1);
        Signs.tell(y, "32,kkkkkkkkkkkk");
        y.game();
        due("mixed(1)", y.mixed(1), 1);
        row(y, 2, 1);
    }

    private static void were() {
        promise = 28;
        SoundAdvice x = of(CHICKEN, "1110");
        due("were(0, 0, 9)", x.were(0, 0, 9), 0);
        row(x, 2);
        due("were(0, 0, 7)", x.were(0, 0, 7), 1);
        row(x, 0);
        due("were(0, 0, 6)", x.were(0, 0, 6), 1);
        row(x, -1);
        due("of(0, 4)", x.of(0, 4), 15);
        int[][] none = {{0, 0, 10}, {0, 0, -10}, {2, 0, 0}, {-1, 0, 0}, {0, 4, 0}, {0, -1, 0}};
        for (int[] one : none) {
            due("were" + Arrays.toString(one), x.were(one[0], one[1], one[2]), -1);
        }
        row(x, -1);
        due("count(7)", x.count(7), 2);
    }

    private static void range() {
        promise = 29;
        SoundAdvice x = of(CHICKEN, "1110");
        due("range(0, 0)", x.range(0, 0), 3);
        row(x, 5, 7);
        due("range(0, 3)", x.range(0, 3), 11);
        row(x, -9, 1);
        due("range(2, 0)", x.range(2, 0), -1);
        due("range(-1, 0)", x.range(-1, 0), -1);
        due("range(0, 4)", x.range(0, 4), -1);
        due("range(0, -1)", x.range(0, -1), -1);
        row(x, -9, 1);
        SoundAdvice y = of(DILEMMA, "1000");
        markRow(y);
        due("range(0, 0)", y.range(0, 0), -2);
        row(y, 3, 3, 6, 3);
        due("of(0, 4)", y.of(0, 4), 12);
        due("range of new", new SoundAdvice().range(1, 3), 19);
    }

    private static void mends() {
        promise = 30;
        SoundAdvice x = of(CHICKEN, "3000");
        due("mends()", x.mends(), 2);
        row(x, 1, 1, 1, 0);
        tokens(x, "3000");
        advise(x, "0120");
        due("mends()", x.mends(), 0);
        row(x, 0, 1, 2, 0);
        advise(x, "1000");
        due("mends()", x.mends(), 1);
        row(x, 0, 1, 0, 0);
        advise(x, "0000");
        due("mends()", x.mends(), -2);
        SoundAdvice y = of(PENNIES, "1000");
        markRow(y);
        due("mends()", y.mends(), -3);
        row(y, 1, -1, 0, -1);
        advise(y, "4000");
        due("mends()", y.mends(), 3);
        row(y, 1, 1, 1, 1);
    }

    private static void pays() {
        promise = 31;
        SoundAdvice x = of(CHICKEN);
        markRow(x);
        due("pays(0, 0, 9)", x.pays(0, 0, 9), 15);
        due("pays(0, 0, -9)", x.pays(0, 0, -9), 18);
        due("pays(0, 0, 0)", x.pays(0, 0, 0), 0);
        due("pays(1, 3, 4)", x.pays(1, 3, 4), 9);
        due("of(3, 5)", x.of(3, 5), 13);
        due("pays(1, 3, 4)", x.pays(1, 3, 4), -2);
        int[][] none = {{0, 0, 10}, {0, 0, -10}, {2, 0, 0}, {-1, 0, 0}, {0, 4, 0}, {0, -1, 0}};
        for (int[] one : none) {
            due("pays" + Arrays.toString(one), x.pays(one[0], one[1], one[2]), -1);
        }
        due("count(7)", x.count(7), 5);
        row(x, 0, 0, 0, 0);
    }

    private static void scales() {
        promise = 32;
        SoundAdvice x = of(DILEMMA);
        markRow(x);
        due("scales(0, -1, 2)", x.scales(0, -1, 2), 0);
        row(x, 0, 0, 0, 0);
        int[] then = {-1, 2, -3, 1};
        for (int p = 0; p < 4; p++) {
            due("of(" + p + ", 4)", x.of(p, 4), then[p] + 9);
        }
        due("of(0, 5)", x.of(0, 5), 12);
        due("undo()", x.undo(), 1);
        int[][] refused = {{2, 0, 2, 0}, {715827882, 0, 0, 0}, {715827883, 0, 0, 1}, {1, MAX, 0, 1}, {0, MAX, 0, 0},
            {0, 10, 0, 0}, {0, -10, 0, 0}, {MIN, 0, 0, 1}, {1, 5, 2, 0}};
        for (int[] one : refused) {
            due("scales" + Arrays.toString(one), x.scales(0, one[0], one[1]), -4);
            row(x, one[2], one[3]);
            due("of(0, 4)", x.of(0, 4), 12);
        }
        due("scales(2, 1, 0)", x.scales(2, 1, 0), -1);
        due("scales(-1, 1, 0)", x.scales(-1, 1, 0), -1);
        row(x, 2, 0);
        due("count(7)", x.count(7), 1);
        due("scales(0, 1, 0)", x.scales(0, 1, 0), 0);
        due("scales(1, 0, -9)", x.scales(1, 0, -9), 0);
        due("of(2, 5)", x.of(2, 5), 0);
        due("count(7)", x.count(7), 3);
        SoundAdvice y = of("22,ljljljlj");
        due("too great on the way", y.scales(0, 1 << 30, MIN), -4);
        row(y, 0, 1);
        SoundAdvice z = of("22,kjkjkjkj");
        due("the least int", z.scales(0, MIN, 0), -4);
        row(z, 0, 0);
        due("less than the least int", z.scales(0, MIN, -1), -4);
        row(z, 0, 1);
        due("to 0 by the greatest", z.scales(0, MAX, -MAX), 0);
        due("of(0, 4)", z.of(0, 4), 9);
    }

    private static void moves() {
        promise = 33;
        SoundAdvice x = of(CHICKEN, "2010");
        markRow(x);
        due("moves(0, 2)", x.moves(0, 2), 2);
        due("moves(0, 3)", x.moves(0, 3), 1);
        due("moves(0, 3)", x.moves(0, 3), -3);
        tokens(x, "0021");
        int[][] none = {{2, 2}, {4, 0}, {-1, 0}, {2, 4}, {2, -1}, {0, 0}};
        for (int[] one : none) {
            due("moves" + Arrays.toString(one), x.moves(one[0], one[1]), -1);
        }
        due("count(7)", x.count(7), 4);
        row(x, 19, 14, 33, 14);
    }

    private static void lays() {
        promise = 34;
        SoundAdvice x = of(CHICKEN, "2010");
        markRow(x);
        due("lays(3, 3)", x.lays(3, 3), 3);
        due("lays(3, 1)", x.lays(3, 1), -3);
        due("lays(0, -3)", x.lays(0, -3), -3);
        due("lays(0, -2)", x.lays(0, -2), 0);
        due("lays(0, MIN)", x.lays(0, MIN), -3);
        due("lays(0, MAX)", x.lays(0, MAX), -3);
        due("lays(0, 0)", x.lays(0, 0), -1);
        due("lays(4, 1)", x.lays(4, 1), -1);
        due("lays(-1, 1)", x.lays(-1, 1), -1);
        tokens(x, "0013");
        due("count(7)", x.count(7), 4);
        row(x, 19, 14, 33, 14);
        due("lays(0, 6)", new SoundAdvice().lays(0, 6), 6);
        due("lays(0, 7)", new SoundAdvice().lays(0, 7), -3);
    }

    private static void takes() {
        promise = 35;
        SoundAdvice x = of(CHICKEN);
        markRow(x);
        due("takes(3, 1)", x.takes(3, 1), 1027);
        tokens(x, "0300");
        due("takes(3, 1)", x.takes(3, 1), -2);
        due("takes(3, 4)", x.takes(3, 4), -2);
        due("takes(3, 0)", x.takes(3, 0), 1030);
        tokens(x, "1110");
        int[][] none = {{3, 5}, {3, 8}, {3, -1}, {0, 0}, {7, 0}};
        for (int[] one : none) {
            due("takes" + Arrays.toString(one), x.takes(one[0], one[1]), -1);
        }
        due("count(7)", x.count(7), 3);
        row(x, 0, 0, 0, 0);
        due("takes none", of(PENNIES).takes(3, 0), -2);
        due("takes below 1000", of("33,aaaaaaaaaaaaaaaaaa").takes(6, 0), 892);
    }

    private static void day() {
        promise = 36;
        SoundAdvice x = of(CHICKEN);
        due("an empty day", live(x, ""), 0);
        row(x, 0, 1);
        due("count(7)", x.count(7), 1);
        due("a day", live(x, "l0+2m01l1-1p03s"), 4);
        row(x, 0, 0);
        tokens(x, "1000");
        due("of(3, 4)", x.of(3, 4), 18);
        due("count(7)", x.count(7), 2);
        due("stuck", live(x, "l1+1m23l0+1"), 1);
        row(x, 1, 0);
        tokens(x, "1100");
        due("stuck at once", live(x, "l0+0l0+1"), 0);
        row(x, 1, 0);
        due("count(7)", x.count(7), 3);
        due("undo()", x.undo(), 2);
        tokens(x, "1000");
        due("undo()", x.undo(), 1);
        tokens(x, "0000");
        due("of(3, 4)", x.of(3, 4), 9);
        due("takes", live(x, "t30t30"), 1);
        row(x, 1, 1);
        tokens(x, "1110");
        due("no such", live(x, "p90a"), 0);
        due("no such", live(x, "m09"), 0);
        due("no such", live(x, "l9+1"), 0);
        due("no such", live(x, "t99"), 0);
        x.sound();
        String[] texts = {"x", "p", "pa", "p0", "p0x", "p02", "p02t", "p02A", "m", "m0", "m0+", "l0", "l0*1", "l0+",
            "l0+x", "t", "t3", "t3t", "l0-1 ", "l0-1l0-1M", "m01m0"};
        int[] answers = {-1, -2, -2, -3, -3, -4, -4, -4, -2, -3, -3, -3, -3, -4,
            -4, -2, -3, -3, -5, -9, -6};
        for (int i = 0; i < texts.length; i++) {
            due("day() of " + texts[i], live(x, texts[i]), answers[i]);
            due("count(9)", x.count(9), 0);
        }
        tokens(x, "1110");
        row(x, -1, 0, 0, 1);
        due("count(7)", x.count(7), 2);
    }

    private static void undo() {
        promise = 37;
        SoundAdvice x = of(CHICKEN, "1110");
        Signs.tell(x, TRIO);
        x.game();
        x.lays(7, 2);
        due("undo()", x.undo(), 3);
        due("count(2)", x.count(2), 0);
        due("count(0)", x.count(0), 3);
        due("undo()", x.undo(), 2);
        due("count(0)", x.count(0), 2);
        due("count(1)", x.count(1), 4);
        due("profile(1, 0, -1)", x.profile(1, 0, -1), 2);
        tokens(x, "1110");
        due("undo()", x.undo(), 1);
        tokens(x, "0000");
        due("undo()", x.undo(), 0);
        due("of(0, 4)", x.of(0, 4), 9);
        due("undo()", x.undo(), -1);
        SoundAdvice y = new SoundAdvice();
        for (int v = 1; v <= 9; v++) {
            y.pays(0, 0, v);
        }
        due("count(7)", y.count(7), 8);
        y.pays(0, 0, 9);
        y.moves(0, 1);
        y.scales(0, 2, 0);
        y.takes(9, 0);
        due("count(7)", y.count(7), 8);
        for (int v = 8; v >= 1; v--) {
            due("undo()", y.undo(), v - 1);
            due("of(0, 4)", y.of(0, 4), 9 + v);
        }
        due("undo()", y.undo(), -1);
        due("of(0, 4)", y.of(0, 4), 10);
        y.keep(1);
        y.lays(0, 1);
        due("again(0)", y.again(0), false);
        due("count(7)", y.count(7), 1);
        due("again(1)", y.again(1), true);
        due("count(7)", y.count(7), 0);
        due("undo()", y.undo(), -1);
        markRow(y);
        y.lays(0, 1);
        y.scales(1, 0, 3);
        y.moves(0, 1);
        y.takes(2, 0);
        y.undo();
        tokens(y, "0100");
        y.undo();
        tokens(y, "1000");
        y.undo();
        due("of(0, 5)", y.of(0, 5), 9);
        due("undo()", y.undo(), 0);
        tokens(y, "0000");
        row(y, 0, 0, 0, 0);
    }

    private static void years() {
        promise = 38;
        SoundAdvice x = new SoundAdvice();
        // draws by seed 1: 16838 % 2, 38526 % 4, 10113 % 19: player 0 has -4 in profile 2
        due("years(1, 1)", x.years(1, 1), 3);
        row(x, 1, 4);
        due("of(2, 4)", x.of(2, 4), 9);
        due("count(7)", x.count(7), 0);
        x.lays(2, 1);
        due("years(1, 1)", x.years(1, 1), 3);
        row(x, 0, 4);
        x.pays(0, 3, -1);
        due("years(1, 1)", x.years(1, 1), 2);
        row(x, 0, 3);
        due("years(1, 0)", x.years(1, 0), -1);
        due("years(1, -1)", x.years(1, -1), -1);
        due("years(1, 31)", x.years(1, 31), -1);
        row(x, 0, 3);
    }

    private static void keep() {
        promise = 39;
        SoundAdvice x = of(CHICKEN, "1110");
        markRow(x);
        due("keep(0)", x.keep(0), true);
        due("keep(2)", x.keep(2), false);
        due("keep(-1)", x.keep(-1), false);
        due("keep(MIN)", x.keep(MIN), false);
        x.lays(3, 1);
        due("keep(1)", x.keep(1), true);
        x.lays(3, 1);
        due("again(0)", x.again(0), true);
        tokens(x, "1110");
        due("again(1)", x.again(1), true);
        tokens(x, "1111");
        due("keep(0)", x.keep(0), true);
        x.lays(3, -1);
        due("again(0)", x.again(0), true);
        tokens(x, "1111");
        row(x, 15, 15, 30, 15);
    }

    private static void again() {
        promise = 40;
        SoundAdvice x = of(CHICKEN, "1110");
        x.keep(1);
        Signs.tell(x, TRIO);
        x.game();
        due("again(0)", x.again(0), false);
        due("again(2)", x.again(2), false);
        due("again(-1)", x.again(-1), false);
        due("again(MAX)", x.again(MAX), false);
        due("count(7)", x.count(7), 3);
        Signs.tell(x, "abc");
        due("again(1)", x.again(1), true);
        due("count(9)", x.count(9), 3);
        due("count(0)", x.count(0), 2);
        due("of(1, 5)", x.of(1, 5), 16);
        tokens(x, "1110");
        due("count(7)", x.count(7), 0);
        x.lays(0, 1);
        due("again(1)", x.again(1), true);
        tokens(x, "1110");
    }

    private static void count() {
        promise = 41;
        SoundAdvice x = of("32,jjjjjjjjjjjj", "100203");
        x.sound();
        Signs.tell(x, "hello");
        int[] counts = {2, 6, 6, 3, 2, 0, 41, 2, 4, 5};
        for (int what = 0; what < counts.length; what++) {
            due("count(" + what + ")", x.count(what), counts[what]);
        }
        due("count(10)", x.count(10), -1);
        due("count(-1)", x.count(-1), -1);
        due("count(MIN)", x.count(MIN), -1);
        due("count(5)", of(TRIO).count(5), 2);
        due("count(0)", of(TRIO).count(0), 3);
    }

    private static void rowOf() {
        promise = 42;
        SoundAdvice x = of(CHICKEN, "1110");
        due("row(0) throws", throwsRow(x, 0), true);
        x.sound();
        due("row(0)", x.row(0), -1);
        due("row(3)", x.row(3), 1);
        due("row(4) throws", throwsRow(x, 4), true);
        due("row(-1) throws", throwsRow(x, -1), true);
        due("row(MIN) throws", throwsRow(x, MIN), true);
        due("row(MAX) throws", throwsRow(x, MAX), true);
        x.gain(0, 0, 1);
        due("row(1) throws", throwsRow(x, 1), true);
    }

    public static void main(String[] args) {
        Watch.begin();
        newObject();
        sign();
        end();
        game();
        advice();
        sheet();
        profile();
        ofWhat();
        gain();
        sound();
        tight();
        hangs();
        values();
        map();
        corner();
        plans();
        sure();
        left();
        list();
        best();
        number();
        which();
        near();
        beyond();
        play();
        calm();
        mixed();
        were();
        range();
        mends();
        pays();
        scales();
        moves();
        lays();
        takes();
        day();
        undo();
        years();
        keep();
        again();
        count();
        rowOf();
        System.out.println(checks + " checks of 42 promises, " + wrong + " wrong");
        if (wrong != 0) {
            System.exit(1);
        }
    }
}
