import java.lang.reflect.InvocationTargetException;
import java.lang.reflect.Method;
import java.lang.reflect.Modifier;
import java.util.Arrays;
import java.util.NoSuchElementException;
import java.util.Random;

/**
 * Each call of the face with arguments at and around all bounds of the document and of the ints, in games of
 * each shape, answered by SoundAdvice and by NaiveAdvice: the same answers, the same exceptions, no others.
 */
public final class EdgesAgreeTest {
    private static final int MIN = Integer.MIN_VALUE;
    private static final int MAX = Integer.MAX_VALUE;
    private static final int[] EDGES = {MIN, MIN + 1, -65536, -257, -129, -11, -10, -9, -8, -2, -1, 0, 1, 2, 3, 4, 5,
        6, 7, 8, 9, 10, 11, 19, 29, 30, 31, 59, 60, 61, 79, 80, 81, 127, 128, 246, 247, 256, 3002, 3003, 32768,
        65535, 65545, MAX - 1, MAX};
    /** Arguments of which most calls with several are not refused. */
    private static final int[] LOW = {-1, 0, 1, 2, 3, 4, 6, 8, 9};
    private static final int MOST_TUPLES = 2500;
    /** No object is used for more calls than the document allows. */
    private static final int MOST_CALLS = 100;
    private static final String[] GAMES = {"22,pplqqljj", "23,jkjljmkjljmj", "32,asjkjljkiijk", "33,jjikkikijjikikkijj",
        "222,llljjjkjjjjjjjjjjjjjjlll"};
    private static final String[] ADVICE = {"1110", "100101", "000600", "000000012", "10000002"};

    private final Random random = new Random(11);
    private SoundAdvice x;
    private NaiveAdvice y;
    private int game;
    private int calls;
    private int tested;

    private EdgesAgreeTest() {
    }

    private void tell(String text) {
        for (int v : Signs.packed(text)) {
            x.sign(v);
            y.sign(v);
        }
        x.end(text.length());
        y.end(text.length());
    }

    private void anew(int which) {
        game = which;
        calls = 0;
        x = new SoundAdvice();
        y = new NaiveAdvice();
        x.keep(0);
        y.keep(0);
        tell(GAMES[game]);
        same("game()", x.game(), y.game());
        x.keep(1);
        y.keep(1);
        tell(ADVICE[game]);
        same("advice()", x.advice(), y.advice());
        same("values()", x.values(), y.values());
        tell("l0+1m01p01al1-1");
    }

    private void same(String call, long got, long due) {
        if (got != due) {
            throw new IllegalStateException(call + " of " + GAMES[game] + " answered " + got + ", due is " + due);
        }
    }

    private void sameState(String call) {
        for (int what = 0; what < 10; what++) {
            same(call + ", count(" + what + ")", x.count(what), y.count(what));
        }
        for (int i = 0; i < y.count(8); i++) {
            same(call + ", row(" + i + ")", x.row(i), y.row(i));
        }
        for (int p = 0; p < y.count(1); p++) {
            for (int what = 3; what < 4 + y.count(0); what++) {
                same(call + ", of(" + p + ", " + what + ")", x.of(p, what), y.of(p, what));
            }
        }
    }

    /** Long.MIN_VALUE for the one exception that the document names; another one ends the test. */
    private static long answer(Method m, Object on, Object[] arguments) throws ReflectiveOperationException {
        try {
            Object got = m.invoke(on, arguments);
            return got instanceof Boolean ? (Boolean) got ? 1 : 0 : ((Number) got).longValue();
        } catch (InvocationTargetException e) {
            if (e.getCause() instanceof NoSuchElementException) {
                return Long.MIN_VALUE;
            }
            throw new IllegalStateException(m.getName() + Arrays.toString(arguments), e.getCause());
        }
    }

    private void call(Method m, Object[] arguments) throws ReflectiveOperationException {
        if (calls >= MOST_CALLS) {
            anew(game);
        }
        calls++;
        tested++;
        Method naive = NaiveAdvice.class.getDeclaredMethod(m.getName(), m.getParameterTypes());
        String told = m.getName() + Arrays.toString(arguments);
        same(told, answer(m, x, arguments), answer(naive, y, arguments));
        sameState(told);
    }

    private Object[] drawn(int many) {
        Object[] arguments = new Object[many];
        for (int k = 0; k < many; k++) {
            int[] from = random.nextInt(3) == 0 ? EDGES : LOW;
            arguments[k] = from[random.nextInt(from.length)];
        }
        return arguments;
    }

    private void all(Method m) throws ReflectiveOperationException {
        int many = m.getParameterCount();
        if (many == 0) {
            call(m, new Object[0]);
        } else if (many == 1) {
            for (int a : EDGES) {
                call(m, new Object[] {a});
            }
        } else if (many == 2) {
            for (int a : EDGES) {
                for (int b : EDGES) {
                    call(m, new Object[] {a, b});
                }
            }
        } else {
            for (int k = 0; k < MOST_TUPLES; k++) {
                call(m, drawn(many));
            }
        }
    }

    private void run() throws ReflectiveOperationException {
        for (int which = 0; which < GAMES.length; which++) {
            for (Method m : SoundAdvice.class.getDeclaredMethods()) {
                if (Modifier.isPublic(m.getModifiers())) {
                    anew(which);
                    all(m);
                }
            }
        }
        System.out.println(tested + " calls at the edges agree");
    }

    public static void main(String[] args) {
        Watch.begin();
        try {
            new EdgesAgreeTest().run();
        } catch (ReflectiveOperationException | RuntimeException e) {
            e.printStackTrace(System.out);
            System.exit(1);
        }
    }
}
