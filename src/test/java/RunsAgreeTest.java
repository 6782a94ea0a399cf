import java.util.NoSuchElementException;
import java.util.Random;

/** Drawn runs of calls, answered by SoundAdvice and by NaiveAdvice, with all that can be seen behind each. */
public final class RunsAgreeTest {
    private static final int RUNS = 700;
    private static final int CALLS = 120;

    private final Random random;
    private final SoundAdvice x = new SoundAdvice();
    private final NaiveAdvice y = new NaiveAdvice();
    private final StringBuilder told = new StringBuilder();
    private final int kindOfGame;

    private RunsAgreeTest(long seed) {
        random = new Random(seed);
        kindOfGame = random.nextInt(5);
    }

    private int below(int n) {
        return random.nextInt(n);
    }

    /** Mostly from 0 on below n, at times a little beyond, seldom any int. */
    private int about(int n) {
        int dice = below(20);
        if (dice == 0) {
            int[] edges = {Integer.MIN_VALUE, Integer.MAX_VALUE, -1, n, n + 1, -2, random.nextInt()};
            return edges[below(edges.length)];
        }
        return below(n);
    }

    private int players() {
        return y.count(0);
    }

    private int profiles() {
        return y.count(1);
    }

    private int player() {
        return about(players());
    }

    private int profile() {
        return about(profiles());
    }

    private int pay() {
        return about(2) == 0 ? about(19) - 9 : below(19) - 9;
    }

    private char letter() {
        switch (kindOfGame) {
            case 0: return (char) ('a' + below(19));
            case 1: return (char) ('i' + below(3));
            case 2: return 'j';
            case 3: return (char) ('h' + below(5));
            default: return below(4) == 0 ? (char) ('a' + below(19)) : 'j';
        }
    }

    private String gameText() {
        String[] heads = {"22,", "23,", "32,", "33,", "222,"};
        int[] letters = {8, 12, 12, 18, 24};
        int k = below(5);
        StringBuilder s = new StringBuilder(heads[k]);
        for (int i = 0; i < letters[k]; i++) {
            s.append(letter());
        }
        return s.toString();
    }

    private String adviceText() {
        int[] tokens = new int[profiles()];
        int n = below(7);
        for (int i = 0; i < n; i++) {
            tokens[below(tokens.length)]++;
        }
        StringBuilder s = new StringBuilder();
        for (int t : tokens) {
            s.append(t);
        }
        return s.toString();
    }

    private char digit(int n) {
        return (char) ('0' + (below(15) == 0 ? below(10) : below(n)));
    }

    private String dayText() {
        StringBuilder s = new StringBuilder();
        int acts = below(6);
        for (int i = 0; i < acts; i++) {
            switch (below(4)) {
                case 0: s.append('p').append(digit(players())).append(digit(profiles())).append(letter()); break;
                case 1: s.append('m').append(digit(profiles())).append(digit(profiles())); break;
                case 2:
                    s.append('l').append(digit(profiles())).append(below(3) == 0 ? '-' : '+').append(digit(3));
                    break;
                default: s.append('t').append((char) ('0' + 1 + below(5))).append(digit(8)); break;
            }
        }
        return s.toString();
    }

    /** At times a sign less, more, or another one. */
    private String spoiled(String text) {
        if (below(4) != 0) {
            return text;
        }
        StringBuilder s = new StringBuilder(text);
        String signs = "0123456789,+-amlpstz `:/" + (char) 0 + (char) 255;
        char other = signs.charAt(below(signs.length()));
        int at = below(text.length() + 1);
        switch (below(3)) {
            case 0: s.insert(at, other); break;
            case 1:
                if (at < s.length()) {
                    s.deleteCharAt(at);
                }
                break;
            default:
                if (at < s.length()) {
                    s.setCharAt(at, other);
                }
                break;
        }
        return s.toString();
    }

    private void tell(String text) {
        check("end(0)", x.end(0) ? 1 : 0, y.end(0) ? 1 : 0);
        for (int v : Signs.packed(text)) {
            check("sign(" + v + ")", x.sign(v), y.sign(v));
        }
        check("end(" + text.length() + ")", x.end(text.length()) ? 1 : 0, y.end(text.length()) ? 1 : 0);
        told.append(" text '").append(text).append("'\n");
    }

    private void check(String call, long got, long due) {
        told.append(call).append(" -> ").append(due).append('\n');
        if (got != due) {
            throw new IllegalStateException(told + call + " answered " + got + ", due is " + due);
        }
    }

    private void sameState() {
        for (int what = -1; what <= 10; what++) {
            check("count(" + what + ")", x.count(what), y.count(what));
        }
        for (int i = 0; i < y.count(8); i++) {
            check("row(" + i + ")", x.row(i), y.row(i));
        }
        for (int p = 0; p < profiles(); p++) {
            for (int what = 3; what < 4 + players(); what++) {
                check("of(" + p + ", " + what + ")", x.of(p, what), y.of(p, what));
            }
        }
    }

    private void ofAndRow() {
        int a = about(profiles() + 1);
        int b = about(8);
        check("of(" + a + ", " + b + ")", ofX(a, b), ofY(a, b));
        int i = about(y.count(8) + 1);
        check("row(" + i + ")", rowX(i), rowY(i));
    }

    private long ofX(int a, int b) {
        try {
            return x.of(a, b);
        } catch (NoSuchElementException e) {
            return Long.MIN_VALUE;
        }
    }

    private long ofY(int a, int b) {
        try {
            return y.of(a, b);
        } catch (NoSuchElementException e) {
            return Long.MIN_VALUE;
        }
    }

    private long rowX(int i) {
        try {
            return x.row(i);
        } catch (NoSuchElementException e) {
            return Long.MIN_VALUE;
        }
    }

    private long rowY(int i) {
        try {
            return y.row(i);
        } catch (NoSuchElementException e) {
            return Long.MIN_VALUE;
        }
    }

    private void textCall() {
        switch (below(6)) {
            case 0: tell(spoiled(gameText())); check("game()", x.game(), y.game()); break;
            case 1: case 2: tell(spoiled(adviceText())); check("advice()", x.advice(), y.advice()); break;
            case 3: case 4: tell(spoiled(dayText())); check("day()", x.day(), y.day()); break;
            default:
                int n = below(3) == 0 ? about(82) : random.nextInt();
                check("sign(" + n + ")", x.sign(n), y.sign(n));
                check("end(" + n % 90 + ")", x.end(n % 90) ? 1 : 0, y.end(n % 90) ? 1 : 0);
                break;
        }
    }

    private void changeCall() {
        int i = player();
        int p = profile();
        int q = profile();
        int v = pay();
        int n = about(7);
        int w = about(8);
        int by = below(4) == 0 ? random.nextInt() : below(5) - 2;
        int add = below(8) == 0 ? random.nextInt() : below(9) - 4;
        int kind = about(4);
        int from = below(3) == 0 ? random.nextInt() : below(19) - 9;
        switch (below(9)) {
            case 0: check("pays" + i + "," + p + "," + v, x.pays(i, p, v), y.pays(i, p, v)); break;
            case 1: check("scales" + i + "," + by + "," + add, x.scales(i, by, add), y.scales(i, by, add)); break;
            case 2: check("moves" + p + "," + q, x.moves(p, q), y.moves(p, q)); break;
            case 3: case 4: check("lays" + p + "," + (n - 2), x.lays(p, n - 2), y.lays(p, n - 2)); break;
            case 5: check("takes" + n + "," + w, x.takes(n, w), y.takes(n, w)); break;
            case 6: check("undo", x.undo(), y.undo()); break;
            case 7:
                String call = "sheet" + i + "," + p + "," + kind + "," + (n - 1) + "," + from + "," + add;
                check(call, x.sheet(i, p, kind, n - 1, from, add), y.sheet(i, p, kind, n - 1, from, add));
                break;
            default:
                int k = about(2);
                if (below(2) == 0) {
                    check("keep" + k, x.keep(k) ? 1 : 0, y.keep(k) ? 1 : 0);
                } else if (below(4) == 0) {
                    check("again" + k, x.again(k) ? 1 : 0, y.again(k) ? 1 : 0);
                }
                break;
        }
    }

    private void smallQuestion() {
        int i = player();
        int a = about(4) - 1;
        int b = about(4) - 1;
        int c = about(4) - 1;
        int p = profile();
        int v = pay();
        switch (below(14)) {
            case 0: check("profile" + a + "," + b + "," + c, x.profile(a, b, c), y.profile(a, b, c)); break;
            case 1: ofAndRow(); break;
            case 2: check("gain" + i + "," + a + "," + b, x.gain(i, a, b), y.gain(i, a, b)); break;
            case 3: check("sound", x.sound(), y.sound()); break;
            case 4: check("tight", x.tight(), y.tight()); break;
            case 5: check("hangs" + i, x.hangs(i), y.hangs(i)); break;
            case 6: check("values", x.values(), y.values()); break;
            case 7: check("map" + i, x.map(i), y.map(i)); break;
            case 8: check("plans", x.plans(), y.plans()); break;
            case 9: check("sure" + i, x.sure(i), y.sure(i)); break;
            case 10: check("left", x.left(), y.left()); break;
            case 11: check("mixed" + a, x.mixed(a), y.mixed(a)); break;
            case 12: check("were" + i + "," + p + "," + v, x.were(i, p, v), y.were(i, p, v)); break;
            default: check("range" + i + "," + p, x.range(i, p), y.range(i, p)); break;
        }
    }

    private void dearQuestion() {
        int n = about(7);
        int k = below(3) == 0 ? about(3004) : about(12);
        int w = about(8);
        int rule = about(2);
        int seed = random.nextInt();
        int p = profile();
        int rounds = about(61);
        int by = about(31);
        switch (below(11)) {
            case 0: check("corner", x.corner(), y.corner()); break;
            case 1: check("list" + n, x.list(n), y.list(n)); break;
            case 2: check("best" + n + "," + w, x.best(n, w), y.best(n, w)); break;
            case 3: check("number" + n + "," + k, x.number(n, k), y.number(n, k)); break;
            case 4: check("which", x.which(), y.which()); break;
            case 5: check("near" + n + "," + k, x.near(n, k), y.near(n, k)); break;
            case 6: check("beyond", x.beyond(), y.beyond()); break;
            case 7: check("play", x.play(rule, seed, p, rounds), y.play(rule, seed, p, rounds)); break;
            case 8: check("calm", x.calm(rule, seed, p, by), y.calm(rule, seed, p, by)); break;
            case 9: check("mends", x.mends(), y.mends()); break;
            default: check("years", x.years(seed, by), y.years(seed, by)); break;
        }
    }

    private void run() {
        tell(gameText());
        check("game()", x.game(), y.game());
        for (int call = 0; call < CALLS; call++) {
            switch (below(7)) {
                case 0: textCall(); break;
                case 1: case 2: changeCall(); break;
                case 3: case 4: smallQuestion(); break;
                case 5: dearQuestion(); break;
                default: ofAndRow(); break;
            }
            sameState();
        }
    }

    public static void main(String[] args) {
        int runs = args.length > 0 ? Integer.parseInt(args[0]) : RUNS;
        Watch.begin(Watch.SECONDS + runs);
        long first = args.length > 1 ? Long.parseLong(args[1]) : 0;
        for (int run = 0; run < runs; run++) {
            try {
                new RunsAgreeTest(first + run).run();
            } catch (RuntimeException e) {
                System.out.println("run " + (first + run) + ": " + e.getMessage());
                e.printStackTrace(System.out);
                System.exit(1);
            }
        }
        System.out.println(runs + " drawn runs agree");
    }
}
