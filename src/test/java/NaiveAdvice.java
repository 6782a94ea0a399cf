import java.util.ArrayList;
import java.util.Arrays;
import java.util.HashSet;
import java.util.List;
import java.util.NoSuchElementException;
import java.util.Set;

/**
 * The document again, word by word and without a care for speed: whole lists are made, corners are
 * looked for among all pairs, what is undone is kept as whole copies. RunsAgreeTest holds SoundAdvice
 * against it.
 */
final class NaiveAdvice {
    private static final int NONE = -1;

    /** All that 1. of the document tells of a game, and advice. */
    private static final class State {
        int[] acts = {2, 2};
        int[][] pay = new int[2][4];
        int[] tokens = new int[4];

        State copy() {
            State other = new State();
            other.acts = acts.clone();
            other.pay = new int[pay.length][];
            for (int i = 0; i < pay.length; i++) {
                other.pay[i] = pay[i].clone();
            }
            other.tokens = tokens.clone();
            return other;
        }

        int players() {
            return acts.length;
        }

        int profiles() {
            return tokens.length;
        }

        int[] actions(int profile) {
            int[] done = new int[acts.length];
            int rest = profile;
            for (int i = acts.length - 1; i >= 0; i--) {
                done[i] = rest % acts[i];
                rest /= acts[i];
            }
            return done;
        }

        int profileOf(int[] done) {
            int profile = 0;
            for (int i = 0; i < acts.length; i++) {
                profile = profile * acts[i] + done[i];
            }
            return profile;
        }

        int with(int profile, int player, int action) {
            int[] done = actions(profile);
            done[player] = action;
            return profileOf(done);
        }

        int gain(int[] on, int i, int a, int b) {
            int sum = 0;
            for (int p = 0; p < profiles(); p++) {
                if (actions(p)[i] == a) {
                    sum += on[p] * (pay[i][with(p, i, b)] - pay[i][p]);
                }
            }
            return sum;
        }

        /** Rows of gain, player, told, done. */
        List<int[]> gains(int[] on) {
            List<int[]> all = new ArrayList<>();
            for (int i = 0; i < players(); i++) {
                for (int a = 0; a < acts[i]; a++) {
                    for (int b = 0; b < acts[i]; b++) {
                        if (a != b) {
                            all.add(new int[] {gain(on, i, a, b), i, a, b});
                        }
                    }
                }
            }
            return all;
        }

        int[] greatest(int[] on) {
            int[] top = null;
            for (int[] g : gains(on)) {
                if (top == null || g[0] > top[0]) {
                    top = g;
                }
            }
            return top;
        }

        boolean isSound(int[] on) {
            return greatest(on)[0] <= 0;
        }

        int value(int[] on, int i) {
            int sum = 0;
            for (int p = 0; p < profiles(); p++) {
                sum += on[p] * pay[i][p];
            }
            return sum;
        }

        int welfare(int[] on) {
            int sum = 0;
            for (int i = 0; i < players(); i++) {
                sum += value(on, i);
            }
            return sum;
        }

        int floor(int[] on) {
            int least = Integer.MAX_VALUE;
            for (int i = 0; i < players(); i++) {
                least = Math.min(least, value(on, i));
            }
            return least;
        }

        List<Integer> plans() {
            List<Integer> all = new ArrayList<>();
            for (int p = 0; p < profiles(); p++) {
                int[] one = new int[profiles()];
                one[p] = 1;
                if (isSound(one)) {
                    all.add(p);
                }
            }
            return all;
        }

        List<int[]> list(int n) {
            List<int[]> all = new ArrayList<>();
            lay(new int[profiles()], 0, n, all);
            return all;
        }

        private void lay(int[] on, int p, int rest, List<int[]> all) {
            if (p == profiles()) {
                if (rest == 0 && isSound(on)) {
                    all.add(on.clone());
                }
                return;
            }
            for (int t = rest; t >= 0; t--) {
                on[p] = t;
                lay(on, p + 1, rest - t, all);
            }
            on[p] = 0;
        }

        boolean isCorner(int[] on, List<int[]> list) {
            Set<List<Integer>> known = new HashSet<>();
            for (int[] one : list) {
                known.add(boxed(one));
            }
            for (int[] one : list) {
                int[] other = new int[on.length];
                for (int p = 0; p < on.length; p++) {
                    other[p] = 2 * on[p] - one[p];
                }
                if (!Arrays.equals(one, other) && known.contains(boxed(other))) {
                    return false;
                }
            }
            return true;
        }

        boolean isApart(int[] on) {
            int t = Arrays.stream(on).sum();
            for (int p = 0; p < profiles(); p++) {
                long product = 1;
                for (int i = 0; i < players(); i++) {
                    int share = 0;
                    for (int q = 0; q < profiles(); q++) {
                        share += actions(q)[i] == actions(p)[i] ? on[q] : 0;
                    }
                    product *= share;
                }
                long power = on[p];
                for (int i = 1; i < players(); i++) {
                    power *= t;
                }
                if (power != product) {
                    return false;
                }
            }
            return true;
        }

        /** What is left of each player, then what was taken out. */
        List<Integer> left() {
            int[] left = new int[players()];
            for (int i = 0; i < players(); i++) {
                left[i] = (1 << acts[i]) - 1;
            }
            List<Integer> out = new ArrayList<>();
            boolean again = true;
            while (again) {
                again = false;
                for (int i = 0; i < players() && !again; i++) {
                    for (int a = 0; a < acts[i] && !again; a++) {
                        if ((left[i] >> a & 1) == 1 && isWorthless(i, a, left)) {
                            left[i] -= 1 << a;
                            out.add(10 * i + a);
                            again = true;
                        }
                    }
                }
            }
            List<Integer> all = new ArrayList<>(boxed(left));
            all.addAll(out);
            return all;
        }

        private boolean isWorthless(int i, int a, int[] left) {
            for (int b = 0; b < acts[i]; b++) {
                if (b == a || (left[i] >> b & 1) == 0) {
                    continue;
                }
                boolean always = true;
                for (int p = 0; p < profiles(); p++) {
                    int[] done = actions(p);
                    boolean among = done[i] == a;
                    for (int j = 0; j < players(); j++) {
                        among &= j == i || (left[j] >> done[j] & 1) == 1;
                    }
                    always &= !among || pay[i][with(p, i, b)] > pay[i][p];
                }
                if (always) {
                    return true;
                }
            }
            return false;
        }

        int leftCount() {
            List<Integer> all = left();
            int sum = 0;
            for (int i = 0; i < players(); i++) {
                sum += Integer.bitCount(all.get(i));
            }
            return sum;
        }
    }

    private State now = new State();
    private final State[] kept = new State[2];
    private final List<State> past = new ArrayList<>();
    private final StringBuilder text = new StringBuilder();
    private List<Long> row = new ArrayList<>();
    private int drawn;

    private static List<Integer> boxed(int[] all) {
        List<Integer> list = new ArrayList<>();
        for (int v : all) {
            list.add(v);
        }
        return list;
    }

    private void tell(int... all) {
        row = new ArrayList<>();
        for (int v : all) {
            row.add((long) v);
        }
    }

    private int draw(int n) {
        drawn = drawn * 1103515245 + 12345;
        return (int) ((drawn & 0xffffffffL) / 65536 % n);
    }

    private boolean noPlayer(int i) {
        return i < 0 || i >= now.players();
    }

    private boolean noProfile(int p) {
        return p < 0 || p >= now.profiles();
    }

    private boolean noAction(int i, int a) {
        return noPlayer(i) || a < 0 || a >= now.acts[i];
    }

    private int total() {
        return Arrays.stream(now.tokens).sum();
    }

    private void remember(State was) {
        past.add(was);
        if (past.size() > 8) {
            past.remove(0);
        }
    }

    int sign(int v) {
        if (text.length() + 4 > 80) {
            return NONE;
        }
        text.append((char) (v >>> 24)).append((char) (v >>> 16 & 255));
        text.append((char) (v >>> 8 & 255)).append((char) (v & 255));
        return text.length();
    }

    boolean end(int n) {
        if (n < 0 || n > text.length()) {
            return false;
        }
        text.setLength(n);
        return true;
    }

    private String takeText() {
        String all = text.toString();
        text.setLength(0);
        return all;
    }

    /** The longest beginning of a text that some whole text of that pattern begins with. */
    private static int standing(String all, String[] heads, int[] lengths) {
        int most = 0;
        for (int k = 0; k < heads.length; k++) {
            StringBuilder whole = new StringBuilder(heads[k]);
            for (int i = 0; i < lengths[k]; i++) {
                whole.append('@');
            }
            int i = 0;
            while (i < all.length() && i < whole.length()
                    && (whole.charAt(i) == '@' ? all.charAt(i) >= 'a' && all.charAt(i) <= 's'
                    : all.charAt(i) == whole.charAt(i))) {
                i++;
            }
            if (i == all.length() && i == whole.length()) {
                return -1 - k;
            }
            most = Math.max(most, i);
        }
        return most;
    }

    int game() {
        String all = takeText();
        String[] heads = {"22,", "23,", "32,", "33,", "222,"};
        int stands = standing(all, heads, new int[] {8, 12, 12, 18, 24});
        if (stands >= 0) {
            return -1 - stands;
        }
        remember(now);
        String head = heads[-1 - stands];
        now = new State();
        now.acts = new int[head.length() - 1];
        int profiles = 1;
        for (int i = 0; i < now.acts.length; i++) {
            now.acts[i] = head.charAt(i) - '0';
            profiles *= now.acts[i];
        }
        now.pay = new int[now.acts.length][profiles];
        now.tokens = new int[profiles];
        for (int k = head.length(); k < all.length(); k++) {
            int j = k - head.length();
            now.pay[j % now.acts.length][j / now.acts.length] = all.charAt(k) - 'a' - 9;
        }
        return profiles;
    }

    int advice() {
        String all = takeText();
        int[] tokens = new int[now.profiles()];
        int sum = 0;
        for (int p = 0; p < tokens.length; p++) {
            if (p >= all.length() || all.charAt(p) < '0' || all.charAt(p) > '6') {
                return -1 - p;
            }
            tokens[p] = all.charAt(p) - '0';
            sum += tokens[p];
            if (sum > 6) {
                return -1 - p;
            }
        }
        if (all.length() > tokens.length) {
            return -1 - tokens.length;
        }
        remember(now.copy());
        now.tokens = tokens;
        return sum;
    }

    int sheet(int player, int k, int kind, int n, int f, int step) {
        if (noPlayer(player) || kind < 0 || kind > 3 || n > 9) {
            return NONE;
        }
        if (kind == 3) {
            return -3;
        }
        if (n < 0) {
            return -2;
        }
        State then = now.copy();
        int changed = 0;
        int v = f;
        for (int e = 0; e < n; e++, v += step) {
            int entry = kind == 0 ? (byte) v : kind == 1 ? (short) v : v;
            long at = (long) k + e;
            if (at < 0 || at >= now.profiles()) {
                tell(e, 1);
                return -4;
            }
            if (entry < -9 || entry > 9) {
                tell(e, 2);
                return -4;
            }
            changed += then.pay[player][(int) at] != entry ? 1 : 0;
            then.pay[player][(int) at] = entry;
        }
        now = then;
        return changed;
    }

    int profile(int a, int b, int c) {
        if (noAction(0, a) || noAction(1, b) || (now.players() == 2 ? c != NONE : noAction(2, c))) {
            return NONE;
        }
        return now.profileOf(now.players() == 2 ? new int[] {a, b} : new int[] {a, b, c});
    }

    int of(int profile, int what) {
        if (noProfile(profile) || what < 0 || what > 6 || what != 3 && noPlayer(what % 4)) {
            throw new NoSuchElementException();
        }
        return what == 3 ? now.tokens[profile]
                : what < 3 ? now.actions(profile)[what] : now.pay[what - 4][profile] + 9;
    }

    int gain(int player, int a, int b) {
        if (noAction(player, a) || noAction(player, b) || a == b) {
            return NONE;
        }
        tell(now.gain(now.tokens, player, a, b));
        return 0;
    }

    int sound() {
        tell(now.greatest(now.tokens));
        return now.isSound(now.tokens) ? 1 : 0;
    }

    int tight() {
        List<Integer> found = new ArrayList<>();
        for (int[] g : now.gains(now.tokens)) {
            boolean isTold = false;
            for (int p = 0; p < now.profiles(); p++) {
                isTold |= now.tokens[p] > 0 && now.actions(p)[g[1]] == g[2];
            }
            if (isTold && g[0] == 0) {
                found.add(100 * g[1] + 10 * g[2] + g[3]);
            }
        }
        tell(found.stream().mapToInt(v -> v).toArray());
        return found.size();
    }

    int hangs(int player) {
        if (noPlayer(player)) {
            return NONE;
        }
        int most = -1;
        for (int p = 0; p < now.profiles(); p++) {
            for (int other = 0; other < now.players(); other++) {
                for (int b = 0; b < now.acts[other] && other != player; b++) {
                    int q = now.with(p, other, b);
                    int differs = Math.abs(now.pay[player][p] - now.pay[player][q]);
                    if (q > p && differs > most) {
                        most = differs;
                        tell(p, other);
                    }
                }
            }
        }
        return most;
    }

    int values() {
        int[] all = new int[now.players() + 2];
        for (int i = 0; i < now.players(); i++) {
            all[i] = now.value(now.tokens, i);
        }
        all[now.players()] = now.welfare(now.tokens);
        all[now.players() + 1] = now.floor(now.tokens);
        tell(all);
        return total();
    }

    int map(int player) {
        if (noPlayer(player)) {
            return NONE;
        }
        int k = now.acts[player];
        int maps = (int) Math.round(Math.pow(k, k));
        int most = Integer.MIN_VALUE;
        int same = 0;
        for (int m = 0; m < maps; m++) {
            int[] done = new int[k + 1];
            int rest = m;
            for (int a = k - 1; a >= 0; a--) {
                done[a] = rest % k;
                rest /= k;
            }
            int as = 0;
            for (int a = 0; a < k; a++) {
                done[k] += now.gain(now.tokens, player, a, done[a]);
                as += done[a] == a ? 1 : 0;
            }
            if (done[k] > most) {
                most = done[k];
                same = as;
                tell(done);
            }
        }
        return same;
    }

    int corner() {
        if (total() == 0 || !now.isSound(now.tokens)) {
            return -2;
        }
        tell(now.isApart(now.tokens) ? 1 : 0);
        return now.isCorner(now.tokens, now.list(total())) ? 1 : 0;
    }

    int plans() {
        List<Integer> plans = now.plans();
        int[] all = new int[2 * plans.size()];
        for (int k = 0; k < plans.size(); k++) {
            all[2 * k] = plans.get(k);
            for (int i = 0; i < now.players(); i++) {
                all[2 * k + 1] += now.pay[i][plans.get(k)];
            }
        }
        tell(all);
        return plans.size();
    }

    int sure(int player) {
        if (noPlayer(player)) {
            return NONE;
        }
        int best = Integer.MIN_VALUE;
        int action = 0;
        for (int a = 0; a < now.acts[player]; a++) {
            int least = Integer.MAX_VALUE;
            for (int p = 0; p < now.profiles(); p++) {
                least = now.actions(p)[player] == a ? Math.min(least, now.pay[player][p]) : least;
            }
            if (least > best) {
                best = least;
                action = a;
            }
        }
        tell(best);
        return action;
    }

    int left() {
        tell(now.left().stream().mapToInt(v -> v).toArray());
        return now.leftCount();
    }

    int list(int n) {
        if (n < 1 || n > 4) {
            return NONE;
        }
        List<int[]> list = now.list(n);
        int corners = 0;
        int apart = 0;
        for (int[] on : list) {
            corners += now.isCorner(on, list) ? 1 : 0;
            apart += now.isApart(on) ? 1 : 0;
        }
        tell(corners, apart);
        return list.size();
    }

    private int measure(int[] on, int what) {
        int sum = 0;
        switch (what) {
            case 0: case 1: return now.welfare(on);
            case 2: return now.floor(on);
            case 6:
                for (int p : now.plans()) {
                    sum += on[p];
                }
                return sum;
            case 7:
                for (int t : on) {
                    sum += t > 0 ? 1 : 0;
                }
                return sum;
            default: return now.value(on, what - 3);
        }
    }

    private boolean noChoice(int n, int what) {
        return n < 1 || n > 6 || what < 0 || what > 7 || what >= 3 && what <= 5 && noPlayer(what - 3);
    }

    private int chosen(List<int[]> list, int what) {
        int best = -2;
        for (int k = 0; k < list.size(); k++) {
            int sign = what == 1 || what == 6 ? -1 : 1;
            if (best < 0 || sign * measure(list.get(k), what) > sign * measure(list.get(best), what)) {
                best = k;
            }
        }
        return best;
    }

    int best(int n, int what) {
        if (noChoice(n, what)) {
            return NONE;
        }
        List<int[]> list = now.list(n);
        int best = chosen(list, what);
        if (best >= 0) {
            int[] all = Arrays.copyOf(list.get(best), now.profiles() + 1);
            all[now.profiles()] = measure(list.get(best), what);
            tell(all);
        }
        return best;
    }

    int number(int n, int k) {
        if (n < 1 || n > 6 || k < 0) {
            return NONE;
        }
        List<int[]> list = now.list(n);
        if (k >= list.size()) {
            return NONE;
        }
        tell(list.get(k));
        return measure(list.get(k), 7);
    }

    int which() {
        if (total() == 0 || !now.isSound(now.tokens)) {
            return -2;
        }
        List<int[]> list = now.list(total());
        int k = 0;
        while (!Arrays.equals(list.get(k), now.tokens)) {
            k++;
        }
        return k;
    }

    private static int distance(int[] one, int[] other) {
        int sum = 0;
        for (int p = 0; p < one.length; p++) {
            sum += Math.abs(one[p] - other[p]);
        }
        return sum / 2;
    }

    int near(int n, int k) {
        if (n < 1 || n > 6 || k < 0) {
            return NONE;
        }
        List<int[]> list = now.list(n);
        if (k >= list.size()) {
            return NONE;
        }
        int found = 0;
        int first = NONE;
        for (int j = list.size() - 1; j >= 0; j--) {
            if (distance(list.get(j), list.get(k)) == 1) {
                found++;
                first = j;
            }
        }
        tell(first);
        return found;
    }

    int beyond() {
        for (int n = 1; n <= 6; n++) {
            int found = 0;
            for (int[] on : now.list(n)) {
                found += measure(on, 6) == 0 ? 1 : 0;
            }
            if (found > 0) {
                tell(found);
                return n;
            }
        }
        return -2;
    }

    /** The regrets behind a number of rounds: by players, actions. */
    private int[][] regrets(List<Integer> rounds) {
        int[][] all = new int[now.players()][];
        for (int i = 0; i < all.length; i++) {
            all[i] = new int[now.acts[i]];
            for (int b = 0; b < all[i].length; b++) {
                for (int p : rounds) {
                    all[i][b] += now.pay[i][now.with(p, i, b)] - now.pay[i][p];
                }
            }
        }
        return all;
    }

    private static int most(int[][] regrets) {
        int most = Integer.MIN_VALUE;
        for (int[] one : regrets) {
            for (int v : one) {
                most = Math.max(most, v);
            }
        }
        return most;
    }

    private List<Integer> rounds(int rule, int seed, int from, int n) {
        drawn = seed;
        List<Integer> rounds = new ArrayList<>();
        rounds.add(from);
        while (rounds.size() < n) {
            int[][] regrets = regrets(rounds);
            int[] done = now.actions(rounds.get(rounds.size() - 1));
            for (int i = 0; i < now.players(); i++) {
                int top = most(new int[][] {regrets[i]});
                if (rule == 0) {
                    done[i] = boxed(regrets[i]).indexOf(top);
                } else if (top > 0) {
                    List<Integer> urn = new ArrayList<>();
                    for (int b = 0; b < regrets[i].length; b++) {
                        for (int k = 0; k < regrets[i][b]; k++) {
                            urn.add(b);
                        }
                    }
                    done[i] = urn.get(draw(urn.size()));
                }
            }
            rounds.add(now.profileOf(done));
        }
        return rounds;
    }

    int play(int rule, int seed, int from, int n) {
        if (rule < 0 || rule > 1 || noProfile(from) || n < 1 || n > 60) {
            return NONE;
        }
        List<Integer> rounds = rounds(rule, seed, from, n);
        List<Integer> all = new ArrayList<>();
        rounds.stream().distinct().forEach(p -> {
            all.add(p);
            all.add((int) rounds.stream().filter(q -> q.equals(p)).count());
        });
        all.add(most(regrets(rounds)));
        tell(all.stream().mapToInt(v -> v).toArray());
        return all.size() / 2;
    }

    int calm(int rule, int seed, int from, int by) {
        if (rule < 0 || rule > 1 || noProfile(from) || by < 0 || by > 30) {
            return NONE;
        }
        List<Integer> rounds = rounds(rule, seed, from, 60);
        for (int r = 1; r <= 60; r++) {
            boolean calm = true;
            for (int t = r; t <= Math.min(60, r + 4); t++) {
                calm &= most(regrets(rounds.subList(0, t))) <= t * by / 10;
            }
            if (calm) {
                return r;
            }
        }
        return -2;
    }

    int mixed(int number) {
        if (number < 0 || number > 1 || kept[number] == null || kept[number].profiles() != now.profiles()) {
            return NONE;
        }
        int[] on = now.tokens.clone();
        for (int p = 0; p < on.length; p++) {
            on[p] += kept[number].tokens[p];
        }
        tell(now.welfare(on), Arrays.stream(on).sum());
        return now.isSound(on) ? 1 : 0;
    }

    int were(int player, int profile, int v) {
        if (noPlayer(player) || noProfile(profile) || v < -9 || v > 9) {
            return NONE;
        }
        State then = now.copy();
        then.pay[player][profile] = v;
        tell(then.greatest(then.tokens)[0]);
        return then.isSound(then.tokens) ? 1 : 0;
    }

    int range(int player, int profile) {
        if (noPlayer(player) || noProfile(profile)) {
            return NONE;
        }
        List<Integer> good = new ArrayList<>();
        State then = now.copy();
        for (int v = -9; v <= 9; v++) {
            then.pay[player][profile] = v;
            if (then.isSound(then.tokens)) {
                good.add(v);
            }
        }
        if (good.isEmpty()) {
            return -2;
        }
        tell(good.get(0), good.get(good.size() - 1));
        return good.size();
    }

    int mends() {
        if (total() == 0) {
            return -2;
        }
        List<int[]> list = now.list(total());
        for (int d = 0; d <= 6; d++) {
            for (int[] on : list) {
                if (distance(on, now.tokens) == d) {
                    tell(on);
                    return d;
                }
            }
        }
        return -3;
    }

    private int setPay(int player, int profile, int v) {
        if (noPlayer(player) || noProfile(profile) || v < -9 || v > 9) {
            return NONE;
        }
        int was = now.pay[player][profile];
        now.pay[player][profile] = v;
        return was == v ? -2 : was + 9;
    }

    int pays(int player, int profile, int v) {
        return settle(now.copy(), setPay(player, profile, v));
    }

    private int settle(State was, int answer) {
        if (answer >= 0) {
            remember(was);
        }
        return answer;
    }

    int scales(int player, int by, int add) {
        if (noPlayer(player)) {
            return NONE;
        }
        State then = now.copy();
        for (int p = 0; p < now.profiles(); p++) {
            try {
                then.pay[player][p] = Math.addExact(Math.multiplyExact(by, now.pay[player][p]), add);
            } catch (ArithmeticException e) {
                tell(p, 1);
                return -4;
            }
            if (Math.abs((long) then.pay[player][p]) > 9) {
                tell(p, 0);
                return -4;
            }
        }
        remember(now);
        now = then;
        return 0;
    }

    private int move(int from, int to) {
        if (noProfile(from) || noProfile(to) || from == to) {
            return NONE;
        }
        if (now.tokens[from] == 0) {
            return -3;
        }
        now.tokens[from]--;
        return ++now.tokens[to];
    }

    int moves(int from, int to) {
        return settle(now.copy(), move(from, to));
    }

    private int lay(int profile, int n) {
        if (noProfile(profile) || n == 0) {
            return NONE;
        }
        if ((long) now.tokens[profile] + n < 0 || (long) total() + n > 6) {
            return -3;
        }
        now.tokens[profile] += n;
        return now.tokens[profile];
    }

    int lays(int profile, int n) {
        return settle(now.copy(), lay(profile, n));
    }

    private int take(int n, int what) {
        if (noChoice(n, what)) {
            return NONE;
        }
        List<int[]> list = now.list(n);
        int best = chosen(list, what);
        if (best < 0 || Arrays.equals(list.get(best), now.tokens)) {
            return -2;
        }
        now.tokens = list.get(best).clone();
        return 1000 + now.welfare(now.tokens);
    }

    int takes(int n, int what) {
        return settle(now.copy(), take(n, what));
    }

    int day() {
        String all = takeText();
        List<String> acts = new ArrayList<>();
        int begin = 0;
        for (int i = 0; i <= all.length(); i++) {
            String part = all.substring(begin, i);
            if (part.matches("p[0-9][0-9][a-s]|m[0-9][0-9]|l[0-9][+-][0-9]|t[0-9][0-9]")) {
                acts.add(part);
                begin = i;
            } else if (!part.matches("|p|p[0-9]|p[0-9][0-9]|[mt]|[mt][0-9]|l|l[0-9]|l[0-9][+-]")) {
                return -1 - (i - 1);
            }
        }
        if (begin < all.length()) {
            return -1 - all.length();
        }
        State was = now.copy();
        int done = 0;
        boolean stuck = false;
        for (String act : acts) {
            int one = act.charAt(1) - '0';
            int two = act.charAt(2) - '0';
            int answer;
            switch (act.charAt(0)) {
                case 'p': answer = setPay(one, two, act.charAt(3) - 'j'); break;
                case 'm': answer = move(one, two); break;
                case 'l': answer = lay(one, Integer.parseInt(act.substring(2))); break;
                default: answer = take(one, two); break;
            }
            if (answer < 0) {
                stuck = true;
                break;
            }
            done++;
        }
        if (done > 0) {
            remember(was);
        }
        tell(stuck ? 1 : 0, now.isSound(now.tokens) ? 1 : 0);
        return done;
    }

    int undo() {
        if (past.isEmpty()) {
            return NONE;
        }
        now = past.remove(past.size() - 1);
        return past.size();
    }

    int years(int seed, int n) {
        if (n < 1 || n > 30) {
            return NONE;
        }
        State then = now.copy();
        drawn = seed;
        for (int year = 0; year < n; year++) {
            int player = draw(then.players());
            int profile = draw(then.profiles());
            then.pay[player][profile] = draw(19) - 9;
        }
        tell(then.isSound(then.tokens) ? 1 : 0, then.leftCount());
        return then.plans().size();
    }

    boolean keep(int i) {
        if (i < 0 || i > 1) {
            return false;
        }
        kept[i] = now.copy();
        return true;
    }

    boolean again(int i) {
        if (i < 0 || i > 1 || kept[i] == null) {
            return false;
        }
        now = kept[i].copy();
        past.clear();
        return true;
    }

    int count(int what) {
        int bits = 0;
        for (int p = 0; p < now.profiles(); p++) {
            bits += now.tokens[p] > 0 ? 1 << p : 0;
        }
        int third = now.players() == 3 ? now.acts[2] : 0;
        int[] all = {now.players(), now.profiles(), total(), now.acts[0], now.acts[1], third, bits,
            past.size(), row.size(), text.length()};
        return what < 0 || what > 9 ? NONE : all[what];
    }

    long row(int i) {
        if (i < 0 || i >= row.size()) {
            throw new NoSuchElementException();
        }
        return row.get(i);
    }
}
