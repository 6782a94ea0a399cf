import java.util.ArrayList;
import java.util.Arrays;
import java.util.List;
import java.util.Map;
import java.util.NoSuchElementException;
import java.util.TreeMap;

/**
 * What the parts of BoundariesTest share: the sentence of the document that is tested, the answers that are
 * due, and twins, by which it is seen what a call leaves as it was.
 */
final class Bench {
    static final int MIN = Integer.MIN_VALUE;
    static final int MAX = Integer.MAX_VALUE;
    /** Stands for a NoSuchElementException among the answers. */
    static final long THROWN = Long.MIN_VALUE;
    /** The number of the terms, and of what the document says ahead of them, among the promises. */
    static final int TERMS = 0;

    /** Pays (6,6) (2,7) (7,2) (0,0). */
    static final String CHICKEN = "22,pplqqljj";
    /** Pays (1,-1) (-1,1) (-1,1) (1,-1). */
    static final String PENNIES = "22,kiikikki";
    /** Pays (3,3) (0,5) (5,0) (1,1). */
    static final String DILEMMA = "22,mmjoojkk";
    static final String STONE = "33,jjikkikijjikikkijj";
    /** Each has 2, if all three do the same. */
    static final String TRIO = "222,llljjjjjjjjjjjjjjjjjjlll";
    static final String FLAT_22 = "22,jjjjjjjj";
    static final String FLAT_23 = "23,jjjjjjjjjjjj";
    static final String FLAT_32 = "32,jjjjjjjjjjjj";
    static final String FLAT_33 = "33,jjjjjjjjjjjjjjjjjj";
    static final String FLAT_222 = "222,jjjjjjjjjjjjjjjjjjjjjjjj";

    /** A call, its answer as a number. */
    interface Call {
        long on(SoundAdvice x);
    }

    /** An object behind some calls, the same each time. */
    interface Made {
        SoundAdvice make();
    }

    /** Few changes behind a call, as many as can be undone, and more than these. */
    private static final int[] CHANGES = {4, 8, 10};
    private static final Map<Integer, List<String>> SENTENCES = new TreeMap<>();
    private static int promise;
    private static String sentence = "";
    private static int since = 1;
    private static int wrong;
    private static int checks;

    private Bench() {
    }

    /** From here on this sentence of a promise is tested. */
    static void says(int ofPromise, String words) {
        closeSentence();
        promise = ofPromise;
        sentence = words;
        since = 0;
        SENTENCES.computeIfAbsent(ofPromise, p -> new ArrayList<>()).add(words);
    }

    static void closeSentence() {
        if (since == 0) {
            fail("nothing is tested");
        }
    }

    static Map<Integer, List<String>> sentences() {
        return SENTENCES;
    }

    static int wrong() {
        return wrong;
    }

    static int checks() {
        return checks;
    }

    static void fail(String what) {
        wrong++;
        System.out.println("promise " + promise + " (" + sentence + "): " + what);
    }

    static void due(String call, long got, long want) {
        checks++;
        since++;
        if (got != want) {
            fail(call + " answered " + got + ", due is " + want);
        }
    }

    static void due(String call, boolean got, boolean want) {
        due(call, got ? 1 : 0, want ? 1 : 0);
    }

    static void row(SoundAdvice x, long... want) {
        checks++;
        since++;
        if (!Arrays.equals(rowOf(x), want)) {
            fail("the row is " + Arrays.toString(rowOf(x)) + ", due is " + Arrays.toString(want));
        }
    }

    static long[] rowOf(SoundAdvice x) {
        long[] all = new long[Math.max(0, x.count(8))];
        for (int i = 0; i < all.length; i++) {
            all[i] = x.row(i);
        }
        return all;
    }

    static void tokens(SoundAdvice x, String want) {
        due("profiles", x.count(1), want.length());
        for (int p = 0; p < Math.min(want.length(), x.count(1)); p++) {
            due("of(" + p + ", 3)", x.of(p, 3), want.charAt(p) - '0');
        }
    }

    /** The pays of a player as a game's text tells them. */
    static void pays(SoundAdvice x, int player, String want) {
        due("profiles", x.count(1), want.length());
        for (int p = 0; p < Math.min(want.length(), x.count(1)); p++) {
            due("of(" + p + ", " + (4 + player) + ")", x.of(p, 4 + player), want.charAt(p) - 'a');
        }
    }

    static SoundAdvice of(String game) {
        SoundAdvice x = new SoundAdvice();
        if (play(x, game) < 0) {
            throw new IllegalStateException(game);
        }
        return x;
    }

    static SoundAdvice of(String game, String advice) {
        SoundAdvice x = of(game);
        if (advise(x, advice) < 0) {
            throw new IllegalStateException(advice);
        }
        return x;
    }

    /** game() of that text. */
    static int play(SoundAdvice x, String game) {
        Signs.tell(x, game);
        return x.game();
    }

    static int advise(SoundAdvice x, String advice) {
        Signs.tell(x, advice);
        return x.advice();
    }

    static int live(SoundAdvice x, String day) {
        Signs.tell(x, day);
        return x.day();
    }

    static long ofOf(SoundAdvice x, int profile, int what) {
        try {
            return x.of(profile, what);
        } catch (NoSuchElementException e) {
            return THROWN;
        }
    }

    static long rowAt(SoundAdvice x, int i) {
        try {
            return x.row(i);
        } catch (NoSuchElementException e) {
            return THROWN;
        }
    }

    /**
     * That game and advice, with other games kept under 0 and 1, a row, a text, and as many changes as are
     * asked for behind it (an even number, 4 at least).
     */
    static SoundAdvice rich(String game, String advice, int changes) {
        SoundAdvice x = new SoundAdvice();
        x.pays(1, 2, 5);
        x.lays(3, 2);
        x.keep(0);
        play(x, game);
        x.keep(1);
        advise(x, advice);
        int pay = x.of(1, 4) - 9;
        for (int more = 4; more < changes; more++) {
            x.pays(0, 1, more % 2 == 1 ? pay : pay == 9 ? -9 : pay + 1);
        }
        x.values();
        Signs.tell(x, "l1+1m10p01al1-1");
        return x;
    }

    /** All that can be seen of an object, what is kept and what can be undone too; it is used up by that. */
    private static String look(SoundAdvice x, boolean withRow) {
        StringBuilder s = new StringBuilder();
        face(x, withRow, s);
        for (int i = 0; i < 10; i++) {
            s.append(" undo ").append(x.undo());
            face(x, withRow, s);
        }
        for (int i = 0; i < 2; i++) {
            s.append(" again ").append(x.again(i));
            face(x, withRow, s);
        }
        return s.toString();
    }

    /** What the text tells; it is used up by that. */
    private static String read(SoundAdvice x) {
        StringBuilder s = new StringBuilder();
        s.append("day ").append(x.day());
        face(x, true, s);
        return s.toString();
    }

    private static void face(SoundAdvice x, boolean withRow, StringBuilder s) {
        for (int what = 0; what < 10; what++) {
            s.append(' ').append(what == 8 && !withRow ? 0 : x.count(what));
        }
        s.append(withRow ? Arrays.toString(rowOf(x)) : "");
        for (int p = 0; p < x.count(1); p++) {
            for (int what = 3; what < 4 + x.count(0); what++) {
                s.append(' ').append(x.of(p, what));
            }
        }
    }

    private static void twins(Made made, Call also, String call, Call asked, boolean withRow) {
        SoundAdvice[] all = {made.make(), made.make(), made.make(), made.make()};
        for (int k = 0; k < all.length; k++) {
            (k < 2 ? asked : also).on(all[k]);
        }
        String seen = look(all[0], withRow) + read(all[1]);
        String due = look(all[2], withRow) + read(all[3]);
        checks++;
        since++;
        if (!seen.equals(due)) {
            fail(call + " changed something:\n  " + seen + "\n  " + due);
        }
    }

    private static long nothing(SoundAdvice x) {
        return 0;
    }

    /** The call answers that, and all is as it was, the row and the text too. */
    static void stays(Made made, String call, Call asked, long want) {
        due(call, asked.on(made.make()), want);
        twins(made, Bench::nothing, call, asked, true);
    }

    /** As stays(), with few changes behind it, with the most, and with more than can be undone. */
    static void stays(String game, String advice, String call, Call asked, long want) {
        for (int behind : CHANGES) {
            stays(() -> rich(game, advice, behind), call, asked, want);
        }
    }

    /** The call reads that text and answers that; all but the text is as it was. */
    static void staysReading(String game, String advice, String text, Call asked, long want) {
        for (int behind : CHANGES) {
            Made made = () -> {
                SoundAdvice x = rich(game, advice, behind);
                Signs.tell(x, text);
                return x;
            };
            due("of '" + text + "'", asked.on(made.make()), want);
            twins(made, x -> x.end(0) ? 1 : 0, "of '" + text + "'", asked, true);
        }
    }

    /** All is as it was but the row, which the call tells. */
    static void staysButRow(String game, String advice, String call, Call asked) {
        for (int behind : CHANGES) {
            twins(() -> rich(game, advice, behind), Bench::nothing, call, asked, false);
        }
    }
}
