import java.util.Arrays;
import java.util.NoSuchElementException;

/** Small games told as texts, and advice for them that nobody gains by disobeying. */
public final class SoundAdvice {
    public static final int NONE = -1;

    private static final int MOST_PLAYERS = 3;
    private static final int MOST_ACTIONS = 3;
    private static final int MOST_PROFILES = 9;
    private static final int MOST_TOKENS = 6;
    private static final int LONGEST_LISTED = 4;
    private static final int LEAST_PAY = -9;
    private static final int MOST_PAY = 9;
    private static final int PAY_KINDS = 19;
    private static final int MOST_SIGNS = 80;
    private static final int MOST_ENTRIES = 9;
    private static final int MOST_ROUNDS = 60;
    private static final int CALM_ROUNDS = 5;
    private static final int MOST_BY = 30;
    private static final int MOST_YEARS = 30;
    private static final int MOST_UNDONE = 8;
    private static final int SHELVES = 2;
    private static final int MOST_NUMBERS = 32;
    /** Ways to lay 6 tokens on 9 profiles: no LIST is longer. */
    private static final int LONGEST_LIST = 3003;

    private final Game now = new Game();
    private final Game draft = new Game();
    private final Game[] shelf = new Game[SHELVES];
    private final boolean[] shelved = new boolean[SHELVES];
    private final Past past = new Past();
    private final Text text = new Text();
    private final Numbers told = new Numbers();
    private final Tally scale = new Tally();
    private final Lister lister = new Lister();
    private final Choice choice = new Choice();
    private final Halves halves = new Halves();
    private final Match match = new Match();
    private final Sieve sieve = new Sieve();
    private final Dice dice = new Dice();
    private final int[] marked = new int[MOST_PROFILES];

    public SoundAdvice() {
        for (int i = 0; i < SHELVES; i++) {
            shelf[i] = new Game();
        }
    }

    // ---- texts

    public int sign(int v) {
        return text.add(v) ? text.length : NONE;
    }

    public boolean end(int n) {
        if (n < 0 || n > text.length) {
            return false;
        }
        text.length = n;
        return true;
    }

    public int game() {
        past.mark(now);
        int answer = text.readGame(draft);
        text.length = 0;
        if (answer >= 0) {
            now.copy(draft);
        }
        return past.settle(answer);
    }

    public int advice() {
        past.mark(now);
        int answer = text.readAdvice(now.profiles, marked);
        text.length = 0;
        if (answer >= 0) {
            System.arraycopy(marked, 0, now.token, 0, now.profiles);
        }
        return past.settle(answer);
    }

    public int sheet(int player, int k, int kind, int n, int f, int step) {
        if (!now.hasPlayer(player) || kind < 0 || kind > 3 || n > MOST_ENTRIES) {
            return NONE;
        }
        if (kind == 3) {
            return -3;
        }
        if (n < 0) {
            return -2;
        }
        for (int i = 0; i < n; i++) {
            int wrong = entryFault(k + i, entry(kind, f + i * step));
            if (wrong != 0) {
                told.clear();
                told.add(i);
                told.add(wrong);
                return -4;
            }
        }
        int changed = 0;
        for (int i = 0; i < n; i++) {
            changed += now.setPay(player, k + i, entry(kind, f + i * step)) ? 1 : 0;
        }
        return changed;
    }

    private static int entry(int kind, int v) {
        return kind == 0 ? (byte) v : kind == 1 ? (short) v : v;
    }

    private int entryFault(int profile, int v) {
        if (!now.hasProfile(profile)) {
            return 1;
        }
        return isPay(v) ? 0 : 2;
    }

    // ---- what there is

    public int profile(int a, int b, int c) {
        if (!now.hasAction(0, a) || !now.hasAction(1, b)) {
            return NONE;
        }
        if (now.players < MOST_PLAYERS) {
            return c == NONE ? now.profileOf(a, b, 0) : NONE;
        }
        return now.hasAction(2, c) ? now.profileOf(a, b, c) : NONE;
    }

    public int of(int profile, int what) throws NoSuchElementException {
        if (!now.hasProfile(profile)) {
            throw new NoSuchElementException("no such profile");
        }
        if (what == 3) {
            return now.token[profile];
        }
        int player = what > 3 ? what - 4 : what;
        if (!now.hasPlayer(player)) {
            throw new NoSuchElementException("no such player");
        }
        return what > 3 ? now.payOf(player, profile) + MOST_PAY : now.doing(player, profile);
    }

    public int gain(int player, int a, int b) {
        if (a == b || !now.hasAction(player, a) || !now.hasAction(player, b)) {
            return NONE;
        }
        scale.weigh(now, now.token);
        told.clear();
        told.add(scale.gainOf(player, a, b));
        return 0;
    }

    public int sound() {
        scale.weigh(now, now.token);
        told.clear();
        told.add(scale.findGreatest());
        told.add(scale.topPlayer);
        told.add(scale.topTold);
        told.add(scale.topDone);
        return scale.isSound() ? 1 : 0;
    }

    public int tight() {
        scale.weigh(now, now.token);
        told.clear();
        for (int i = 0; i < now.players; i++) {
            for (int a = 0; a < now.acts[i]; a++) {
                tellTight(i, a);
            }
        }
        return told.size;
    }

    private void tellTight(int player, int a) {
        if (now.tokensDoing(player, a, now.token) == 0) {
            return;
        }
        for (int b = 0; b < now.acts[player]; b++) {
            if (b != a && scale.gainOf(player, a, b) == 0) {
                told.add(100 * player + 10 * a + b);
            }
        }
    }

    public int hangs(int player) {
        if (!now.hasPlayer(player)) {
            return NONE;
        }
        int most = -1;
        int where = 0;
        int whose = 0;
        for (int p = 0; p < now.profiles; p++) {
            for (int other = 0; other < now.players; other++) {
                int differs = other == player ? -1 : hangsThere(player, p, other);
                if (differs > most) {
                    most = differs;
                    where = p;
                    whose = other;
                }
            }
        }
        told.clear();
        told.add(where);
        told.add(whose);
        return most;
    }

    /** The later actions alone, since the lesser of both profiles is told; -1 if there is no later one. */
    private int hangsThere(int player, int p, int other) {
        int most = -1;
        for (int b = now.doing(other, p) + 1; b < now.acts[other]; b++) {
            int differs = now.payOf(player, now.instead(other, p, b)) - now.payOf(player, p);
            most = Math.max(most, Math.abs(differs));
        }
        return most;
    }

    public int values() {
        told.clear();
        for (int i = 0; i < now.players; i++) {
            told.add(now.valueOf(i, now.token));
        }
        told.add(now.welfareOf(now.token));
        told.add(now.floorOf(now.token));
        return now.tokens();
    }

    public int map(int player) {
        if (!now.hasPlayer(player)) {
            return NONE;
        }
        scale.weigh(now, now.token);
        told.clear();
        int asTold = 0;
        int together = 0;
        for (int a = 0; a < now.acts[player]; a++) {
            int b = scale.bestInstead(player, a);
            told.add(b);
            together += scale.gainOf(player, a, b);
            asTold += a == b ? 1 : 0;
        }
        told.add(together);
        return asTold;
    }

    public int corner() {
        if (!isListed()) {
            return -2;
        }
        told.clear();
        told.add(now.isApart(now.token) ? 1 : 0);
        halves.read(now);
        return halves.isCorner(now.token) ? 1 : 0;
    }

    public int plans() {
        int bits = now.planBits();
        told.clear();
        for (int p = 0; p < now.profiles; p++) {
            if ((bits >> p & 1) != 0) {
                told.add(p);
                told.add(now.welfareAt(p));
            }
        }
        return Integer.bitCount(bits);
    }

    public int sure(int player) {
        if (!now.hasPlayer(player)) {
            return NONE;
        }
        int best = 0;
        for (int a = 1; a < now.acts[player]; a++) {
            if (now.leastPay(player, a) > now.leastPay(player, best)) {
                best = a;
            }
        }
        told.clear();
        told.add(now.leastPay(player, best));
        return best;
    }

    public int left() {
        sieve.sift(now);
        told.clear();
        for (int i = 0; i < now.players; i++) {
            told.add(sieve.stays[i]);
        }
        for (int i = 0; i < sieve.outs; i++) {
            told.add(sieve.out[i]);
        }
        return sieve.staying();
    }

    // ---- all sound advice

    public int list(int n) {
        if (n < 1 || n > LONGEST_LISTED) {
            return NONE;
        }
        int listed = 0;
        int corners = 0;
        int apart = 0;
        lister.begin(now, n);
        halves.read(now);
        for (; listed < LONGEST_LIST && lister.next(); listed++) {
            corners += halves.isCorner(lister.token) ? 1 : 0;
            apart += now.isApart(lister.token) ? 1 : 0;
        }
        told.clear();
        told.add(corners);
        told.add(apart);
        return listed;
    }

    public int best(int n, int what) {
        if (!isChoice(n, what)) {
            return NONE;
        }
        lister.begin(now, n);
        if (!choice.choose(now, lister, what)) {
            return -2;
        }
        tellTokens(choice.token);
        told.add(choice.worth);
        return choice.number;
    }

    public int number(int n, int k) {
        if (!findListed(n, k)) {
            return NONE;
        }
        tellTokens(lister.token);
        return Integer.bitCount(now.usedBits(lister.token));
    }

    public int which() {
        if (!isListed()) {
            return -2;
        }
        lister.begin(now, now.tokens());
        for (int k = 0; k < LONGEST_LIST && lister.next(); k++) {
            if (now.isAdvice(lister.token)) {
                return k;
            }
        }
        return -2;
    }

    public int near(int n, int k) {
        if (!findListed(n, k)) {
            return NONE;
        }
        System.arraycopy(lister.token, 0, marked, 0, MOST_PROFILES);
        int found = 0;
        int first = NONE;
        lister.begin(now, n);
        for (int i = 0; i < LONGEST_LIST && lister.next(); i++) {
            if (movedBetween(marked, lister.token) == 1) {
                first = found == 0 ? i : first;
                found++;
            }
        }
        told.clear();
        told.add(first);
        return found;
    }

    public int beyond() {
        int bits = now.planBits();
        for (int n = 1; n <= MOST_TOKENS; n++) {
            int found = countBeyond(n, bits);
            if (found > 0) {
                told.clear();
                told.add(found);
                return n;
            }
        }
        return -2;
    }

    private int countBeyond(int n, int planBits) {
        int found = 0;
        lister.begin(now, n);
        for (int i = 0; i < LONGEST_LIST && lister.next(); i++) {
            found += (now.usedBits(lister.token) & planBits) == 0 ? 1 : 0;
        }
        return found;
    }

    /** Leaves the lister at number k of the LIST of n. */
    private boolean findListed(int n, int k) {
        if (!isSize(n) || k < 0 || k >= LONGEST_LIST) {
            return false;
        }
        lister.begin(now, n);
        for (int i = 0; i <= k; i++) {
            if (!lister.next()) {
                return false;
            }
        }
        return true;
    }

    private boolean isListed() {
        return now.tokens() > 0 && isSoundNow(now);
    }

    private boolean isChoice(int n, int what) {
        if (!isSize(n) || what < 0 || what > 7) {
            return false;
        }
        return what < 3 || what > 5 || now.hasPlayer(what - 3);
    }

    // ---- play

    public int play(int rule, int seed, int from, int n) {
        if (!isPlay(rule, from) || n < 1 || n > MOST_ROUNDS) {
            return NONE;
        }
        match.begin(now, rule, seed, from);
        for (int round = 1; round < n; round++) {
            match.playOn(now);
        }
        told.clear();
        for (int i = 0; i < match.unlike; i++) {
            told.add(match.order[i]);
            told.add(match.times[match.order[i]]);
        }
        told.add(match.mostRegret(now));
        return match.unlike;
    }

    public int calm(int rule, int seed, int from, int by) {
        if (!isPlay(rule, from) || by < 0 || by > MOST_BY) {
            return NONE;
        }
        match.begin(now, rule, seed, from);
        int calmSince = 0;
        for (int round = 1; round <= MOST_ROUNDS; round++) {
            boolean isCalm = match.mostRegret(now) <= round * by / 10;
            calmSince = isCalm ? calmSince + 1 : 0;
            if (calmSince == CALM_ROUNDS) {
                return round - CALM_ROUNDS + 1;
            }
            match.playOn(now);
        }
        return calmSince > 0 ? MOST_ROUNDS - calmSince + 1 : -2;
    }

    private boolean isPlay(int rule, int from) {
        return (rule == 0 || rule == 1) && now.hasProfile(from);
    }

    // ---- what would be

    public int mixed(int number) {
        if (!isShelved(number) || shelf[number].profiles != now.profiles) {
            return NONE;
        }
        for (int p = 0; p < now.profiles; p++) {
            marked[p] = now.token[p] + shelf[number].token[p];
        }
        scale.weigh(now, marked);
        told.clear();
        told.add(now.welfareOf(marked));
        told.add(now.tokens() + shelf[number].tokens());
        return scale.isSound() ? 1 : 0;
    }

    public int were(int player, int profile, int v) {
        if (!now.hasPay(player, profile) || !isPay(v)) {
            return NONE;
        }
        draft.copy(now);
        draft.setPay(player, profile, v);
        scale.weigh(draft, draft.token);
        told.clear();
        told.add(scale.findGreatest());
        return scale.isSound() ? 1 : 0;
    }

    public int range(int player, int profile) {
        if (!now.hasPay(player, profile)) {
            return NONE;
        }
        draft.copy(now);
        int found = 0;
        int least = 0;
        int greatest = 0;
        for (int v = LEAST_PAY; v <= MOST_PAY; v++) {
            draft.setPay(player, profile, v);
            if (isSoundNow(draft)) {
                least = found == 0 ? v : least;
                greatest = v;
                found++;
            }
        }
        if (found == 0) {
            return -2;
        }
        told.clear();
        told.add(least);
        told.add(greatest);
        return found;
    }

    public int mends() {
        if (now.tokens() == 0) {
            return -2;
        }
        int fewest = NONE;
        lister.begin(now, now.tokens());
        for (int k = 0; k < LONGEST_LIST && lister.next(); k++) {
            int moved = movedBetween(now.token, lister.token);
            if (fewest == NONE || moved < fewest) {
                fewest = moved;
                System.arraycopy(lister.token, 0, marked, 0, MOST_PROFILES);
            }
        }
        if (fewest == NONE) {
            return -3;
        }
        tellTokens(marked);
        return fewest;
    }

    // ---- changes

    public int pays(int player, int profile, int v) {
        past.mark(now);
        return past.settle(changePay(player, profile, v));
    }

    public int scales(int player, int by, int add) {
        if (!now.hasPlayer(player)) {
            return NONE;
        }
        for (int p = 0; p < now.profiles; p++) {
            int wrong = scaleFault(now.payOf(player, p), by, add);
            if (wrong >= 0) {
                told.clear();
                told.add(p);
                told.add(wrong);
                return -4;
            }
        }
        past.mark(now);
        for (int p = 0; p < now.profiles; p++) {
            now.setPay(player, p, by * now.payOf(player, p) + add);
        }
        return past.settle(0);
    }

    /** -1 if there is none, 1 if an int is too small, 0 if it is no pay. */
    private static int scaleFault(int pay, int by, int add) {
        long product = (long) by * pay;
        long sum = product + add;
        if (product != (int) product || sum != (int) sum) {
            return 1;
        }
        return isPay((int) sum) ? -1 : 0;
    }

    public int moves(int from, int to) {
        past.mark(now);
        return past.settle(moveToken(from, to));
    }

    public int lays(int profile, int n) {
        past.mark(now);
        return past.settle(layTokens(profile, n));
    }

    public int takes(int n, int what) {
        past.mark(now);
        return past.settle(takeBest(n, what));
    }

    public int day() {
        int fault = text.dayFault();
        if (fault != NONE) {
            text.length = 0;
            return -1 - fault;
        }
        past.mark(now);
        int done = 0;
        boolean stuck = false;
        for (int at = 0; at < text.length && !stuck; at += Math.max(1, Text.actLength(text.at(at)))) {
            stuck = act(at) < 0;
            done += stuck ? 0 : 1;
        }
        text.length = 0;
        past.settle(done > 0 ? done : NONE);
        told.clear();
        told.add(stuck ? 1 : 0);
        told.add(isSoundNow(now) ? 1 : 0);
        return done;
    }

    private int act(int at) {
        int second = text.at(at + 2);
        switch (text.at(at)) {
            case 'p':
                return changePay(text.digit(at + 1), text.digit(at + 2), text.at(at + 3) - 'j');
            case 'm':
                return moveToken(text.digit(at + 1), text.digit(at + 2));
            case 'l':
                return layTokens(text.digit(at + 1), second == '-' ? -text.digit(at + 3) : text.digit(at + 3));
            case 't':
                return takeBest(text.digit(at + 1), text.digit(at + 2));
            default:
                return NONE;
        }
    }

    public int undo() {
        return past.back(now);
    }

    public int years(int seed, int n) {
        if (n < 1 || n > MOST_YEARS) {
            return NONE;
        }
        draft.copy(now);
        dice.state = seed;
        for (int year = 0; year < n; year++) {
            int player = dice.draw(draft.players);
            int profile = dice.draw(draft.profiles);
            draft.setPay(player, profile, dice.draw(PAY_KINDS) - MOST_PAY);
        }
        sieve.sift(draft);
        told.clear();
        told.add(isSoundNow(draft) ? 1 : 0);
        told.add(sieve.staying());
        return Integer.bitCount(draft.planBits());
    }

    private int changePay(int player, int profile, int v) {
        if (!now.hasPay(player, profile) || !isPay(v)) {
            return NONE;
        }
        int was = now.payOf(player, profile);
        return now.setPay(player, profile, v) ? was + MOST_PAY : -2;
    }

    private int moveToken(int from, int to) {
        if (from == to || !now.hasProfile(from) || !now.hasProfile(to)) {
            return NONE;
        }
        if (now.token[from] == 0) {
            return -3;
        }
        now.token[from]--;
        now.token[to]++;
        return now.token[to];
    }

    private int layTokens(int profile, int n) {
        if (n == 0 || !now.hasProfile(profile)) {
            return NONE;
        }
        if (n < -now.token[profile] || n > MOST_TOKENS - now.tokens()) {
            return -3;
        }
        now.token[profile] += n;
        return now.token[profile];
    }

    private int takeBest(int n, int what) {
        if (!isChoice(n, what)) {
            return NONE;
        }
        lister.begin(now, n);
        if (!choice.choose(now, lister, what) || now.isAdvice(choice.token)) {
            return -2;
        }
        System.arraycopy(choice.token, 0, now.token, 0, MOST_PROFILES);
        return 1000 + now.welfareOf(now.token);
    }

    // ---- kept

    public boolean keep(int i) {
        if (i < 0 || i >= SHELVES) {
            return false;
        }
        shelf[i].copy(now);
        shelved[i] = true;
        return true;
    }

    public boolean again(int i) {
        if (!isShelved(i)) {
            return false;
        }
        now.copy(shelf[i]);
        past.size = 0;
        return true;
    }

    public int count(int what) {
        switch (what) {
            case 0:
                return now.players;
            case 1:
                return now.profiles;
            case 2:
                return now.tokens();
            case 3:
            case 4:
            case 5:
                return now.acts[what - 3];
            case 6:
                return now.usedBits(now.token);
            case 7:
                return past.size;
            case 8:
                return told.size;
            case 9:
                return text.length;
            default:
                return NONE;
        }
    }

    public long row(int i) throws NoSuchElementException {
        if (i < 0 || i >= told.size) {
            throw new NoSuchElementException("no such number");
        }
        return told.number[i];
    }

    private boolean isShelved(int i) {
        return i >= 0 && i < SHELVES && shelved[i];
    }

    private boolean isSoundNow(Game game) {
        scale.weigh(game, game.token);
        return scale.isSound();
    }

    private void tellTokens(int[] token) {
        told.clear();
        for (int p = 0; p < now.profiles; p++) {
            told.add(token[p]);
        }
    }

    private static boolean isPay(int v) {
        return v >= LEAST_PAY && v <= MOST_PAY;
    }

    private static boolean isSize(int n) {
        return n >= 1 && n <= MOST_TOKENS;
    }

    /** How many tokens have to be moved to come from one advice to another of as many. */
    private static int movedBetween(int[] one, int[] other) {
        int moved = 0;
        for (int p = 0; p < MOST_PROFILES; p++) {
            moved += Math.max(0, one[p] - other[p]);
        }
        return moved;
    }

    /** The players, their actions and pays, and the advice given to them. */
    private static final class Game {
        final int[] acts = new int[MOST_PLAYERS];
        /** How far two profiles lie apart that differ by one action of a player. */
        final int[] stride = new int[MOST_PLAYERS];
        /** What each player does in each profile, told once to spare divisions. */
        final int[] does = new int[MOST_PLAYERS * MOST_PROFILES];
        final int[] pay = new int[MOST_PLAYERS * MOST_PROFILES];
        /** Behind the last profile always 0, so that rows of tokens may be compared whole. */
        final int[] token = new int[MOST_PROFILES];
        int players;
        int profiles;

        Game() {
            shape(2, 2, 0);
        }

        /** A third player of no actions is none. */
        void shape(int first, int second, int third) {
            acts[0] = first;
            acts[1] = second;
            acts[2] = third;
            players = third == 0 ? 2 : 3;
            stride[2] = third == 0 ? 0 : 1;
            stride[1] = third == 0 ? 1 : third;
            stride[0] = stride[1] * second;
            profiles = stride[0] * first;
            Arrays.fill(pay, 0);
            Arrays.fill(token, 0);
            Arrays.fill(does, 0);
            for (int a = 0; a < first; a++) {
                for (int b = 0; b < second; b++) {
                    for (int c = 0; c < Math.max(1, third); c++) {
                        int p = profileOf(a, b, c);
                        does[p] = a;
                        does[MOST_PROFILES + p] = b;
                        does[2 * MOST_PROFILES + p] = c;
                    }
                }
            }
        }

        void copy(Game other) {
            System.arraycopy(other.acts, 0, acts, 0, MOST_PLAYERS);
            System.arraycopy(other.stride, 0, stride, 0, MOST_PLAYERS);
            System.arraycopy(other.does, 0, does, 0, does.length);
            System.arraycopy(other.pay, 0, pay, 0, pay.length);
            System.arraycopy(other.token, 0, token, 0, MOST_PROFILES);
            players = other.players;
            profiles = other.profiles;
        }

        boolean hasPlayer(int player) {
            return player >= 0 && player < players;
        }

        boolean hasAction(int player, int a) {
            return hasPlayer(player) && a >= 0 && a < acts[player];
        }

        boolean hasProfile(int p) {
            return p >= 0 && p < profiles;
        }

        boolean hasPay(int player, int p) {
            return hasPlayer(player) && hasProfile(p);
        }

        int profileOf(int a, int b, int c) {
            return a * stride[0] + b * stride[1] + c * stride[2];
        }

        int doing(int player, int p) {
            return does[player * MOST_PROFILES + p];
        }

        /** The profile that p becomes, if that player does b. */
        int instead(int player, int p, int b) {
            return p + (b - does[player * MOST_PROFILES + p]) * stride[player];
        }

        int payOf(int player, int p) {
            return pay[player * MOST_PROFILES + p];
        }

        /** Whether it was another one; what is no pay of the game stays. */
        boolean setPay(int player, int p, int v) {
            if (!hasPay(player, p) || payOf(player, p) == v) {
                return false;
            }
            pay[player * MOST_PROFILES + p] = v;
            return true;
        }

        int tokens() {
            int together = 0;
            for (int p = 0; p < profiles; p++) {
                together += token[p];
            }
            return together;
        }

        int tokensDoing(int player, int a, int[] tokens) {
            int together = 0;
            for (int p = 0; p < profiles; p++) {
                together += doing(player, p) == a ? tokens[p] : 0;
            }
            return together;
        }

        int usedBits(int[] tokens) {
            int bits = 0;
            for (int p = 0; p < profiles; p++) {
                bits |= tokens[p] > 0 ? 1 << p : 0;
            }
            return bits;
        }

        boolean isAdvice(int[] tokens) {
            for (int p = 0; p < profiles; p++) {
                if (token[p] != tokens[p]) {
                    return false;
                }
            }
            return true;
        }

        int valueOf(int player, int[] tokens) {
            int together = 0;
            for (int p = 0; p < profiles; p++) {
                together += tokens[p] * pay[player * MOST_PROFILES + p];
            }
            return together;
        }

        int welfareOf(int[] tokens) {
            int together = 0;
            for (int i = 0; i < players; i++) {
                together += valueOf(i, tokens);
            }
            return together;
        }

        int floorOf(int[] tokens) {
            int least = valueOf(0, tokens);
            for (int i = 1; i < players; i++) {
                least = Math.min(least, valueOf(i, tokens));
            }
            return least;
        }

        int welfareAt(int p) {
            int together = 0;
            for (int i = 0; i < players; i++) {
                together += payOf(i, p);
            }
            return together;
        }

        int leastPay(int player, int a) {
            int least = MOST_PAY;
            for (int p = 0; p < profiles; p++) {
                if (doing(player, p) == a) {
                    least = Math.min(least, payOf(player, p));
                }
            }
            return least;
        }

        int planBits() {
            int bits = 0;
            for (int p = 0; p < profiles; p++) {
                bits |= isPlan(p) ? 1 << p : 0;
            }
            return bits;
        }

        private boolean isPlan(int p) {
            for (int i = 0; i < players; i++) {
                for (int b = 0; b < acts[i]; b++) {
                    if (payOf(i, instead(i, p, b)) > payOf(i, p)) {
                        return false;
                    }
                }
            }
            return true;
        }

        /** Whether the tokens lie as if each player drew alone. */
        boolean isApart(int[] tokens) {
            int together = 0;
            for (int p = 0; p < profiles; p++) {
                together += tokens[p];
            }
            int power = players == MOST_PLAYERS ? together * together : together;
            for (int p = 0; p < profiles; p++) {
                int product = 1;
                for (int i = 0; i < players; i++) {
                    product *= tokensDoing(i, doing(i, p), tokens);
                }
                if (tokens[p] * power != product) {
                    return false;
                }
            }
            return true;
        }
    }

    /** Tokens on the profiles of a game with all gains, kept up to date token by token. */
    private static final class Tally {
        private static final int SQUARE = MOST_ACTIONS * MOST_ACTIONS;

        final int[] token = new int[MOST_PROFILES];
        /** By player, what it is told, what it does. */
        final int[] gains = new int[MOST_PLAYERS * SQUARE];
        /** What one token more brings: by profile, player, what is done. */
        private final int[] lure = new int[MOST_PROFILES * SQUARE];
        /** Where the gains lie that a profile has a share in: by profile, player. */
        private final int[] place = new int[MOST_PROFILES * MOST_PLAYERS];
        /** The last profile that has a share in each gain. */
        private final int[] lastShare = new int[MOST_PLAYERS * SQUARE];
        private final int[] acts = new int[MOST_PLAYERS];
        private int players;
        int profiles;
        int topPlayer;
        int topTold;
        int topDone;

        /** Of that game, no tokens yet. */
        void read(Game game) {
            players = game.players;
            profiles = game.profiles;
            System.arraycopy(game.acts, 0, acts, 0, MOST_PLAYERS);
            clear();
            for (int p = 0; p < profiles; p++) {
                for (int i = 0; i < players; i++) {
                    readLures(game, p, i);
                }
            }
        }

        void clear() {
            Arrays.fill(token, 0);
            Arrays.fill(gains, 0);
        }

        private void readLures(Game game, int p, int player) {
            int from = player * SQUARE + game.doing(player, p) * MOST_ACTIONS;
            place[p * MOST_PLAYERS + player] = from;
            for (int b = 0; b < acts[player]; b++) {
                int more = game.payOf(player, game.instead(player, p, b)) - game.payOf(player, p);
                lure[p * SQUARE + player * MOST_ACTIONS + b] = more;
                lastShare[from + b] = p;
            }
        }

        void weigh(Game game, int[] tokens) {
            read(game);
            putAll(tokens);
        }

        void putAll(int[] tokens) {
            for (int p = 0; p < profiles; p++) {
                put(p, tokens[p]);
            }
        }

        void put(int p, int n) {
            if (n == 0) {
                return;
            }
            token[p] += n;
            for (int i = 0; i < players; i++) {
                int to = place[p * MOST_PLAYERS + i];
                int from = p * SQUARE + i * MOST_ACTIONS;
                for (int b = 0; b < acts[i]; b++) {
                    gains[to + b] += n * lure[from + b];
                }
            }
        }

        int gainOf(int player, int a, int b) {
            return gains[player * SQUARE + a * MOST_ACTIONS + b];
        }

        boolean isSound() {
            return settledBy() == NONE;
        }

        /** NONE if it is sound; else a profile up to which the tokens are enough to make it unsound. */
        int settledBy() {
            for (int k = 0; k < players * SQUARE; k++) {
                if (gains[k] > 0) {
                    return lastShare[k];
                }
            }
            return NONE;
        }

        /** The greatest gain; whose it is, told and done stand in the fields then. */
        int findGreatest() {
            topPlayer = 0;
            topTold = 0;
            topDone = 1;
            for (int i = 0; i < players; i++) {
                for (int a = 0; a < acts[i]; a++) {
                    for (int b = 0; b < acts[i]; b++) {
                        if (a != b && gainOf(i, a, b) > gainOf(topPlayer, topTold, topDone)) {
                            topPlayer = i;
                            topTold = a;
                            topDone = b;
                        }
                    }
                }
            }
            return gainOf(topPlayer, topTold, topDone);
        }

        int bestInstead(int player, int a) {
            int best = 0;
            for (int b = 1; b < acts[player]; b++) {
                if (gainOf(player, a, b) > gainOf(player, a, best)) {
                    best = b;
                }
            }
            return best;
        }
    }

    /** Goes through the LIST of n, that ahead first, without holding it. */
    private static final class Lister {
        private final Tally tally = new Tally();
        final int[] token = tally.token;
        private boolean fresh;
        private int stepFrom;

        void begin(Game game, int n) {
            tally.read(game);
            tally.put(0, n);
            fresh = true;
        }

        /** Goes on to the next one, from begin() on to the first one; false if there is none. */
        boolean next() {
            for (int i = 0; i <= LONGEST_LIST; i++) {
                if (!step()) {
                    return false;
                }
                int unsoundBy = tally.settledBy();
                if (unsoundBy == NONE) {
                    stepFrom = tally.profiles - 2;
                    return true;
                }
                // no advice of the same tokens up to there is sound: all these are left out at once
                stepFrom = Math.min(unsoundBy, tally.profiles - 2);
            }
            return false;
        }

        /** The first advice that is behind this one and unlike it at stepFrom or ahead of it. */
        private boolean step() {
            if (fresh) {
                fresh = false;
                return true;
            }
            int p = stepFrom;
            while (p >= 0 && token[p] == 0) {
                p--;
            }
            if (p < 0) {
                return false;
            }
            int rest = 1;
            tally.put(p, -1);
            for (int q = p + 1; q < tally.profiles; q++) {
                rest += token[q];
                tally.put(q, -token[q]);
            }
            tally.put(p + 1, rest);
            return true;
        }
    }

    /** The best advice of a LIST. */
    private static final class Choice {
        final int[] token = new int[MOST_PROFILES];
        int number;
        int worth;

        /** Goes through what the lister has just begun; false if there is none. */
        boolean choose(Game game, Lister lister, int what) {
            int planBits = what == 6 ? game.planBits() : 0;
            number = NONE;
            worth = 0;
            for (int k = 0; k < LONGEST_LIST && lister.next(); k++) {
                int worthThen = worthOf(game, lister.token, what, planBits);
                if (number == NONE || isBetter(worthThen, what)) {
                    number = k;
                    worth = worthThen;
                    System.arraycopy(lister.token, 0, token, 0, MOST_PROFILES);
                }
            }
            return number != NONE;
        }

        private boolean isBetter(int worthThen, int what) {
            return what == 1 || what == 6 ? worthThen < worth : worthThen > worth;
        }

        private static int worthOf(Game game, int[] tokens, int what, int planBits) {
            switch (what) {
                case 0:
                case 1:
                    return game.welfareOf(tokens);
                case 2:
                    return game.floorOf(tokens);
                case 6:
                    return tokensOn(tokens, planBits);
                case 7:
                    return Integer.bitCount(game.usedBits(tokens));
                default:
                    return game.valueOf(what - 3, tokens);
            }
        }

        private static int tokensOn(int[] tokens, int bits) {
            int together = 0;
            for (int p = 0; p < MOST_PROFILES; p++) {
                together += (bits >> p & 1) != 0 ? tokens[p] : 0;
            }
            return together;
        }
    }

    /**
     * Whether sound advice is a corner. Two others that are together twice it differ from it by a lean
     * one way and the other way; both are sound, if no gain of the lean is farther from 0 than its own.
     */
    private static final class Halves {
        private final Tally whole = new Tally();
        private final Tally lean = new Tally();

        void read(Game game) {
            whole.read(game);
            lean.read(game);
        }

        boolean isCorner(int[] tokens) {
            whole.clear();
            whole.putAll(tokens);
            lean.clear();
            return !leans(whole, lean, 0, 0, false);
        }

        /** Tries all leans from profile p on; of a lean and its mirror image one is enough. */
        private static boolean leans(Tally whole, Tally lean, int p, int sum, boolean begun) {
            if (p >= whole.profiles) {
                return begun && sum == 0 && isWithin(whole, lean);
            }
            int most = whole.token[p];
            boolean found = false;
            for (int d = begun ? -most : 0; d <= most && !found; d++) {
                lean.put(p, d);
                found = leans(whole, lean, p + 1, sum + d, begun || d != 0);
                lean.put(p, -d);
            }
            return found;
        }

        private static boolean isWithin(Tally whole, Tally lean) {
            for (int k = 0; k < whole.gains.length; k++) {
                if (Math.abs(lean.gains[k]) > -whole.gains[k]) {
                    return false;
                }
            }
            return true;
        }
    }

    /** Play by best replies or by regrets. */
    private static final class Match {
        private final Dice dice = new Dice();
        private final int[] regret = new int[MOST_PLAYERS * MOST_ACTIONS];
        final int[] times = new int[MOST_PROFILES];
        /** The unlike profiles, as they came first. */
        final int[] order = new int[MOST_PROFILES];
        int unlike;
        private int rule;
        private int at;

        /** Plays the first round. */
        void begin(Game game, int byRule, int seed, int from) {
            Arrays.fill(regret, 0);
            Arrays.fill(times, 0);
            unlike = 0;
            rule = byRule;
            dice.state = seed;
            at = from;
            book(game);
        }

        void playOn(Game game) {
            int to = 0;
            for (int i = 0; i < game.players; i++) {
                to += game.stride[i] * (rule == 0 ? mostRegretted(game, i) : drawn(game, i));
            }
            at = to;
            book(game);
        }

        private void book(Game game) {
            if (times[at] == 0 && unlike < MOST_PROFILES) {
                order[unlike] = at;
                unlike++;
            }
            times[at]++;
            for (int i = 0; i < game.players; i++) {
                for (int b = 0; b < game.acts[i]; b++) {
                    regret[i * MOST_ACTIONS + b] += game.payOf(i, game.instead(i, at, b)) - game.payOf(i, at);
                }
            }
        }

        private int mostRegretted(Game game, int player) {
            int best = 0;
            for (int b = 1; b < game.acts[player]; b++) {
                if (regret[player * MOST_ACTIONS + b] > regret[player * MOST_ACTIONS + best]) {
                    best = b;
                }
            }
            return best;
        }

        private int drawn(Game game, int player) {
            int together = 0;
            for (int b = 0; b < game.acts[player]; b++) {
                together += Math.max(0, regret[player * MOST_ACTIONS + b]);
            }
            if (together == 0) {
                return game.doing(player, at);
            }
            int mark = dice.draw(together);
            int upTo = 0;
            for (int b = 0; b < game.acts[player]; b++) {
                upTo += Math.max(0, regret[player * MOST_ACTIONS + b]);
                if (upTo > mark) {
                    return b;
                }
            }
            return game.doing(player, at);
        }

        int mostRegret(Game game) {
            int most = regret[0];
            for (int i = 0; i < game.players; i++) {
                for (int b = 0; b < game.acts[i]; b++) {
                    most = Math.max(most, regret[i * MOST_ACTIONS + b]);
                }
            }
            return most;
        }
    }

    /** Takes out what is never worth doing. */
    private static final class Sieve {
        final int[] stays = new int[MOST_PLAYERS];
        final int[] out = new int[MOST_PLAYERS * MOST_ACTIONS];
        int outs;

        void sift(Game game) {
            outs = 0;
            for (int i = 0; i < MOST_PLAYERS; i++) {
                stays[i] = (1 << game.acts[i]) - 1;
            }
            for (int round = 0; round < out.length && takeFirst(game); round++) {
                outs++;
            }
        }

        int staying() {
            return Integer.bitCount(stays[0]) + Integer.bitCount(stays[1]) + Integer.bitCount(stays[2]);
        }

        private boolean takeFirst(Game game) {
            for (int i = 0; i < game.players; i++) {
                for (int a = 0; a < game.acts[i]; a++) {
                    if (isStaying(i, a) && isWorthless(game, i, a)) {
                        stays[i] &= ~(1 << a);
                        out[outs] = 10 * i + a;
                        return true;
                    }
                }
            }
            return false;
        }

        private boolean isStaying(int player, int a) {
            return (stays[player] >> a & 1) != 0;
        }

        private boolean isWorthless(Game game, int player, int a) {
            for (int b = 0; b < game.acts[player]; b++) {
                if (b != a && isStaying(player, b) && isLess(game, player, a, b)) {
                    return true;
                }
            }
            return false;
        }

        private boolean isLess(Game game, int player, int a, int b) {
            for (int p = 0; p < game.profiles; p++) {
                boolean counts = game.doing(player, p) == a && isProfileStaying(game, p);
                if (counts && game.payOf(player, game.instead(player, p, b)) <= game.payOf(player, p)) {
                    return false;
                }
            }
            return true;
        }

        private boolean isProfileStaying(Game game, int p) {
            for (int i = 0; i < game.players; i++) {
                if (!isStaying(i, game.doing(i, p))) {
                    return false;
                }
            }
            return true;
        }
    }

    /** The latest changes that can be undone: how the game was ahead of each. */
    private static final class Past {
        /** One more than can be undone: a change is marked before it is known whether it will be done. */
        private final Game[] ring = new Game[MOST_UNDONE + 1];
        private int first;
        int size;

        Past() {
            for (int i = 0; i < ring.length; i++) {
                ring[i] = new Game();
            }
        }

        private Game slot(int i) {
            int at = first + i;
            return ring[at < ring.length ? at : at - ring.length];
        }

        void mark(Game game) {
            slot(size).copy(game);
        }

        /** The mark counts, if the change was done; hands the answer on. */
        int settle(int answer) {
            if (answer < 0) {
                return answer;
            }
            if (size < MOST_UNDONE) {
                size++;
            } else {
                first = first + 1 < ring.length ? first + 1 : 0;
            }
            return answer;
        }

        int back(Game game) {
            if (size == 0) {
                return NONE;
            }
            size--;
            game.copy(slot(size));
            return size;
        }
    }

    /** THE TEXT, and what it can tell. */
    private static final class Text {
        private final int[] signs = new int[MOST_SIGNS];
        int length;

        boolean add(int v) {
            if (length > MOST_SIGNS - 4) {
                return false;
            }
            for (int shift = 24; shift >= 0; shift -= 8) {
                signs[length] = v >>> shift & 255;
                length++;
            }
            return true;
        }

        /** NONE behind the end, so that the end is a sign that can stand nowhere. */
        int at(int i) {
            return i >= 0 && i < length ? signs[i] : NONE;
        }

        int digit(int i) {
            return at(i) - '0';
        }

        private boolean isDigit(int i) {
            return at(i) >= '0' && at(i) <= '9';
        }

        private boolean isLetter(int i) {
            return at(i) >= 'a' && at(i) <= 's';
        }

        private boolean isActions(int i) {
            return at(i) == '2' || at(i) == '3';
        }

        /** The profiles of the game, or -1 less the place of the first wrong sign. */
        int readGame(Game game) {
            if (!isActions(0)) {
                return -1;
            }
            if (!isActions(1)) {
                return -2;
            }
            boolean isThree = at(0) == '2' && at(1) == '2' && at(2) == '2';
            int comma = isThree ? 3 : 2;
            if (at(comma) != ',') {
                return -1 - comma;
            }
            game.shape(digit(0), digit(1), isThree ? 2 : 0);
            return readPays(game, comma + 1);
        }

        private int readPays(Game game, int from) {
            int i = from;
            for (int p = 0; p < game.profiles; p++) {
                for (int player = 0; player < game.players; player++) {
                    if (!isLetter(i)) {
                        return -1 - i;
                    }
                    game.setPay(player, p, at(i) - 'j');
                    i++;
                }
            }
            return i < length ? -1 - i : game.profiles;
        }

        /** The tokens together, or -1 less the place of the first wrong sign. */
        int readAdvice(int profiles, int[] tokens) {
            int together = 0;
            for (int p = 0; p < profiles; p++) {
                if (!isDigit(p) || together + digit(p) > MOST_TOKENS) {
                    return -1 - p;
                }
                tokens[p] = digit(p);
                together += digit(p);
            }
            return profiles < length ? -1 - profiles : together;
        }

        /** The place of the first sign that can't stand in a day, NONE without. */
        int dayFault() {
            int i = 0;
            for (int acts = 0; acts < MOST_SIGNS && i < length; acts++) {
                int kind = at(i);
                int signsOfIt = actLength(kind);
                if (signsOfIt == 0) {
                    return i;
                }
                for (int place = 1; place < signsOfIt; place++) {
                    if (!canStand(kind, place, i + place)) {
                        return i + place;
                    }
                }
                i += signsOfIt;
            }
            return NONE;
        }

        private boolean canStand(int kind, int place, int i) {
            if (kind == 'p' && place == 3) {
                return isLetter(i);
            }
            if (kind == 'l' && place == 2) {
                return at(i) == '+' || at(i) == '-';
            }
            return isDigit(i);
        }

        static int actLength(int kind) {
            switch (kind) {
                case 'p':
                case 'l':
                    return 4;
                case 'm':
                case 't':
                    return 3;
                default:
                    return 0;
            }
        }
    }

    /** The ROW. */
    private static final class Numbers {
        final long[] number = new long[MOST_NUMBERS];
        int size;

        void clear() {
            size = 0;
        }

        void add(long v) {
            if (size < MOST_NUMBERS) {
                number[size] = v;
                size++;
            }
        }
    }

    /** Numbers drawn from a seed. */
    private static final class Dice {
        int state;

        int draw(int n) {
            state = state * 1103515245 + 12345;
            return n > 0 ? (state >>> 16) % n : 0;
        }
    }
}
