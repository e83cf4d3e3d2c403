import java.util.ArrayList;
import java.util.Comparator;
import java.util.List;
import java.util.function.Predicate;
import java.util.regex.Matcher;
import java.util.regex.Pattern;

/** The document once more, as plainly as it can be told, to compare the class's answers with. */
final class Model {
    private static final int ALONE = -9;

    /** Someone of a side; likings are held by whoever is liked. */
    static final class Someone {
        final boolean isLeft;
        final int number;
        final char kind;
        final int bar;
        final java.util.Map<Someone, Integer> likings = new java.util.HashMap<>();

        Someone(boolean isLeft, int number, char kind, int bar) {
            this.isLeft = isLeft;
            this.number = number;
            this.kind = kind;
            this.bar = bar;
        }

        int told() {
            return isLeft ? number : 5 + number;
        }

        int likes(Someone other) {
            return likings.get(other);
        }
    }

    static final class State {
        final List<Someone> left = new ArrayList<>();
        final List<Someone> right = new ArrayList<>();
        int step = 1;
        int shift = 0;
        int law = 0;

        State copy() {
            State to = new State();
            for (Someone one : all()) {
                to.add(one.isLeft, one.kind, one.bar);
            }
            for (Someone one : all()) {
                for (Someone other : side(!one.isLeft)) {
                    to.find(one.told()).likings.put(to.find(other.told()), one.likes(other));
                }
            }
            to.step = step;
            to.shift = shift;
            to.law = law;
            return to;
        }

        void add(boolean isLeft, char kind, int bar) {
            Someone one = new Someone(isLeft, side(isLeft).size(), kind, bar);
            for (Someone other : side(!isLeft)) {
                one.likings.put(other, 5);
                other.likings.put(one, 5);
            }
            side(isLeft).add(one);
        }

        List<Someone> side(boolean isLeft) {
            return isLeft ? left : right;
        }

        List<Someone> all() {
            List<Someone> all = new ArrayList<>(left);
            all.addAll(right);
            return all;
        }

        Someone find(int told) {
            for (Someone one : all()) {
                if (one.told() == told) {
                    return one;
                }
            }
            return null;
        }

        int rounds() {
            return left.size() > right.size() ? left.size() : right.size();
        }

        Someone met(Someone one, int round) {
            for (Someone l : left) {
                for (Someone r : right) {
                    boolean meet = (l.number + shift + round * step) % rounds() == r.number;
                    if (meet && (l == one || r == one)) {
                        return l == one ? r : l;
                    }
                }
            }
            return null;
        }

        int feels(Someone one, int round) {
            Someone other = met(one, round);
            int felt = one.likes(other);
            if (one.kind == 'e' && round == 0) {
                felt = felt - 2;
            }
            if (one.kind == 't' || one.kind == 'w') {
                felt = felt - (int) Math.floor(round / 2.0);
            }
            if (one.kind == 'w' && round > 0 && met(one, round - 1) == null) {
                felt = felt - 1;
            }
            if (one.kind == 's' && round > 0 && met(one, round - 1) != null && one.likes(met(one, round - 1)) > one.likes(other)) {
                felt = felt - 3;
            }
            if (one.kind == 'h') {
                felt = other.likes(one) >= 5 ? felt + 1 : felt - 1;
            }
            return felt;
        }

        boolean says(Someone one, Someone other) {
            for (int round = 0; round < rounds(); round++) {
                if (met(one, round) == other && feels(one, round) >= one.bar) {
                    return true;
                }
            }
            return false;
        }

        List<Someone> yeses(Someone one) {
            return those(side(!one.isLeft), other -> says(one, other));
        }

        List<int[]> pairs(int byLaw) {
            List<int[]> pairs = new ArrayList<>();
            for (Someone l : left) {
                for (Someone r : right) {
                    if (counts(l, r, byLaw) && counts(r, l, byLaw)) {
                        pairs.add(new int[] {l.number, r.number});
                    }
                }
            }
            return pairs;
        }

        private boolean counts(Someone one, Someone other, int byLaw) {
            List<Someone> yeses = yeses(one);
            yeses.sort(byLiking(one));
            int most = byLaw == 1 ? 3 : byLaw == 2 ? 1 : 5;
            boolean among = yeses.subList(0, Math.min(most, yeses.size())).contains(other);
            return among && (byLaw != 3 || gets(one, true) == other);
        }

        /** Of all stable ways (ties broken by numbers) the best one for the asking side tells whom one gets. */
        Someone gets(Someone one, boolean leftAsk) {
            List<Someone[]> stable = new ArrayList<>();
            ways(new Someone[Math.min(left.size(), right.size())], 0, way -> {
                if (firstRather(way, true) == null) {
                    stable.add(way.clone());
                }
                return true;
            });
            boolean asks = one.isLeft == leftAsk;
            Someone best = null;
            for (Someone[] way : stable) {
                Someone has = has(way, one);
                boolean isBetter = best == null || has != null && (byLiking(one).compare(has, best) < 0) == asks;
                if (has != null && isBetter) {
                    best = has;
                }
            }
            return best;
        }

        boolean leftIsLesser() {
            return left.size() <= right.size();
        }

        private void ways(Someone[] way, int from, Predicate<Someone[]> take) {
            if (from == way.length) {
                take.test(way);
                return;
            }
            for (Someone other : side(!leftIsLesser())) {
                boolean isFree = true;
                for (int i = 0; i < from; i++) {
                    isFree &= way[i] != other;
                }
                if (isFree) {
                    way[from] = other;
                    ways(way, from + 1, take);
                }
            }
        }

        private Someone has(Someone[] way, Someone one) {
            if (one.isLeft == leftIsLesser()) {
                return one.number < way.length ? way[one.number] : null;
            }
            for (int i = 0; i < way.length; i++) {
                if (way[i] == one) {
                    return side(leftIsLesser()).get(i);
                }
            }
            return null;
        }

        private int[] firstRather(Someone[] way, boolean tiesByNumber) {
            return firstRather(one -> has(way, one), tiesByNumber);
        }

        int[] firstRather(java.util.function.Function<Someone, Someone> has, boolean tiesByNumber) {
            for (Someone l : left) {
                for (Someone r : right) {
                    if (rather(l, r, has.apply(l), tiesByNumber) && rather(r, l, has.apply(r), tiesByNumber)) {
                        return new int[] {l.number, r.number};
                    }
                }
            }
            return null;
        }

        private boolean rather(Someone one, Someone other, Someone had, boolean tiesByNumber) {
            int likesHad = had == null ? -1 : one.likes(had);
            if (tiesByNumber && had != null) {
                return byLiking(one).compare(other, had) < 0;
            }
            return one.likes(other) > likesHad;
        }

        int firm() {
            int[] ways = new int[1];
            ways(new Someone[Math.min(left.size(), right.size())], 0, way -> {
                if (firstRather(way, false) == null) {
                    ways[0]++;
                }
                return true;
            });
            return ways[0];
        }

        int shaded() {
            int shaded = 0;
            for (Someone one : all()) {
                for (int round = 0; round < rounds(); round++) {
                    Someone other = met(one, round);
                    if (other != null && feels(one, round) != one.likes(other)) {
                        shaded++;
                    }
                }
            }
            return shaded;
        }

        boolean allMeet() {
            for (Someone l : left) {
                for (Someone r : right) {
                    boolean meet = false;
                    for (int round = 0; round < rounds(); round++) {
                        meet |= met(l, round) == r;
                    }
                    if (!meet) {
                        return false;
                    }
                }
            }
            return true;
        }

        int gaps(Someone one) {
            int gaps = 0;
            for (int round = 0; round < rounds(); round++) {
                gaps += met(one, round) == null ? 1 : 0;
            }
            return gaps;
        }
    }

    private static Comparator<Someone> byLiking(Someone one) {
        return (a, b) -> one.likes(a) != one.likes(b) ? one.likes(b) - one.likes(a) : a.number - b.number;
    }

    private static List<Someone> those(List<Someone> people, Predicate<Someone> which) {
        List<Someone> those = new ArrayList<>();
        for (Someone one : people) {
            if (which.test(one)) {
                those.add(one);
            }
        }
        return those;
    }

    private static int bits(List<Someone> people) {
        int bits = 0;
        for (Someone one : people) {
            bits |= 1 << one.number;
        }
        return bits;
    }

    private State now = new State();
    private State image = null;
    private final List<Integer> row = new ArrayList<>();
    private final StringBuilder letters = new StringBuilder();
    private final int[] refusals = new int[7];

    private int no(int refusal) {
        refusals[-refusal]++;
        return refusal;
    }

    private Someone[] two(int one, int other) {
        Someone[] two = {now.find(one), now.find(other)};
        return two[0] == null || two[1] == null || two[0].isLeft == two[1].isLeft ? null : two;
    }

    int letter(int c) {
        if (c < 0) {
            return no(-4);
        }
        if (c > 255 || letters.length() == 96) {
            return no(-6);
        }
        letters.append((char) c);
        return letters.length();
    }

    private static final Pattern STATEMENT = Pattern.compile("[lr][metshw][0-9];|k[0-9]{3};|o[0-9]{2};|w[0-9];");

    int evening() {
        String text = letters.toString();
        letters.setLength(0);
        Matcher matcher = STATEMENT.matcher(text);
        List<Integer> starts = new ArrayList<>();
        int at = 0;
        while (matcher.find(at) && matcher.start() == at) {
            starts.add(at);
            at = matcher.end();
        }
        if (at < text.length() || starts.isEmpty()) {
            // Behind the last whole statement: as many letters more as some statement can begin with.
            int more = 0;
            while (at + more < text.length() && begins(text.substring(at, at + more + 1))) {
                more++;
            }
            return -1000 - (at + more);
        }
        State tried = now.copy();
        for (int start : starts) {
            if (!comes(tried, text.substring(start, text.indexOf(';', start)))) {
                return -2000 - start;
            }
        }
        now = tried;
        return starts.size();
    }

    private static boolean begins(String text) {
        Matcher matcher = STATEMENT.matcher(text);
        matcher.matches();
        return matcher.hitEnd();
    }

    private static boolean comes(State tried, String statement) {
        char first = statement.charAt(0);
        int[] digits = new int[statement.length()];
        for (int i = 0; i < digits.length; i++) {
            digits[i] = Character.digit(statement.charAt(i), 10);
        }
        if (first == 'l' || first == 'r') {
            if (tried.side(first == 'l').size() == 5) {
                return false;
            }
            tried.add(first == 'l', statement.charAt(1), digits[2]);
        } else if (first == 'k') {
            Someone one = tried.find(digits[1]);
            Someone other = tried.find(digits[2]);
            if (one == null || other == null || one.isLeft == other.isLeft) {
                return false;
            }
            one.likings.put(other, digits[3]);
        } else if (first == 'o') {
            if (digits[1] == 0 || digits[1] > 4 || digits[2] > 4) {
                return false;
            }
            tried.step = digits[1];
            tried.shift = digits[2];
        } else {
            if (digits[1] > 3) {
                return false;
            }
            tried.law = digits[1];
        }
        return true;
    }

    int person(int one, int what) {
        Someone who = now.find(one);
        if (who == null) {
            return no(-1);
        }
        return what == 0 ? "metshw".indexOf(who.kind) : what == 1 ? who.bar : what == 2 ? now.gaps(who) : no(-2);
    }

    int liking(int one, int other) {
        Someone[] two = two(one, other);
        return two == null ? no(-1) : two[0].likes(two[1]);
    }

    int like(int one, int other, int v) {
        Someone[] two = two(one, other);
        if (two == null || v < 0 || v > 9) {
            return no(two == null ? -1 : v < 0 ? -4 : -6);
        }
        return two[0].likings.put(two[1], v);
    }

    int order(int step, int shift) {
        if (step < 1 || shift < 0) {
            return no(-4);
        }
        if (step > 4 || shift > 4) {
            return no(-6);
        }
        int was = now.step * 10 + now.shift;
        now.step = step;
        now.shift = shift;
        return was;
    }

    int law(int v) {
        if (v < 0 || v > 3) {
            return no(-2);
        }
        int was = now.law;
        now.law = v;
        return was;
    }

    private boolean isThere(int one, int round) {
        return now.find(one) != null && round >= 0 && round < now.rounds();
    }

    int meets(int one, int round) {
        if (!isThere(one, round)) {
            return no(-1);
        }
        Someone other = now.met(now.find(one), round);
        return other == null ? ALONE : other.told();
    }

    int felt(int one, int round) {
        if (!isThere(one, round)) {
            return 1000000000 - no(-1);
        }
        return now.met(now.find(one), round) == null ? 999 : now.feels(now.find(one), round);
    }

    int yeses(int one, int what) {
        Someone who = now.find(one);
        if (who == null) {
            return no(-1);
        }
        if (what != 0 && what != 1) {
            return no(-2);
        }
        return bits(what == 0 ? now.yeses(who) : those(now.side(!who.isLeft), other -> now.says(other, who)));
    }

    int pairs(int one) {
        if (one == -1) {
            return now.pairs(now.law).size();
        }
        Someone who = now.find(one);
        if (who == null) {
            return no(-1);
        }
        int bits = 0;
        for (int[] pair : now.pairs(now.law)) {
            if (pair[who.isLeft ? 0 : 1] == who.number) {
                bits |= 1 << pair[who.isLeft ? 1 : 0];
            }
        }
        return bits;
    }

    int glad(int law, int what) {
        if (law < 0 || law > 3 || what < 0 || what > 1) {
            return no(-2);
        }
        int glad = 0;
        for (int[] pair : now.pairs(law)) {
            Someone l = now.left.get(pair[0]);
            Someone r = now.right.get(pair[1]);
            glad += what == 0 ? 1 : l.likes(r) + r.likes(l);
        }
        return glad;
    }

    int shaded() {
        return now.shaded();
    }

    int bestOrder() {
        State tried = now.copy();
        int best = -9;
        int least = 99999;
        for (int code = 44; code >= 10; code--) {
            tried.step = code / 10;
            tried.shift = code % 10;
            if (tried.shift <= 4 && tried.allMeet() && tried.shaded() <= least) {
                least = tried.shaded();
                best = code;
            }
        }
        return best;
    }

    private int gets(int one, boolean leftAsk) {
        Someone who = now.find(one);
        if (who == null) {
            return no(-1);
        }
        Someone other = now.gets(who, leftAsk);
        return other == null ? -9 : other.told();
    }

    int ranks(int one) {
        return gets(one, true);
    }

    int asked(int one) {
        return gets(one, false);
    }

    int firm() {
        return now.firm();
    }

    int row(int v) {
        if (v < 0 || v > 31 || row.size() == 10) {
            return no(v < 0 ? -4 : -6);
        }
        row.add(v);
        return row.size();
    }

    int rather() {
        List<Integer> real = new ArrayList<>(row);
        real.removeIf(v -> v == 9);
        boolean isRight = row.size() == now.left.size() && real.stream().distinct().count() == real.size();
        for (int v : real) {
            isRight &= v < now.right.size();
        }
        if (!isRight) {
            return no(-3);
        }
        int[] first = now.firstRather(one -> {
            int other = one.isLeft ? row.get(one.number) : row.indexOf(one.number);
            return other < 0 || one.isLeft && other == 9 ? null : now.side(!one.isLeft).get(other);
        }, false);
        return first == null ? -9 : first[0] * 10 + first[1];
    }

    int truly(int one, int other) {
        Someone[] two = two(one, other);
        if (two == null) {
            return no(-1);
        }
        boolean says = now.says(two[0], two[1]);
        int was = two[0].likes(two[1]);
        int bits = 0;
        for (int v = 0; v < 10; v++) {
            two[0].likings.put(two[1], v);
            bits += now.says(two[0], two[1]) == says ? 1 << v : 0;
        }
        two[0].likings.put(two[1], was);
        return bits;
    }

    int judge() {
        List<Integer> slips = new ArrayList<>(row);
        row.clear();
        List<Someone> all = now.all();
        int i = 0;
        while (i < slips.size() && i < all.size() && slips.get(i) == bits(now.yeses(all.get(i)))) {
            i++;
        }
        return i == slips.size() && i == all.size() ? -9 : i;
    }

    int clear() {
        int had = row.size();
        row.clear();
        return had;
    }

    int lots(int n, int z) {
        if (n < 1 || n > 20) {
            return no(n < 1 ? -4 : -6);
        }
        State mind = now.copy();
        int pairs = 0;
        int seed = z;
        for (int i = 0; i < n; i++) {
            for (Someone one : mind.all()) {
                for (Someone other : mind.side(!one.isLeft)) {
                    seed = (int) (seed * 1664525L + 1013904223L);
                    one.likings.put(other, (int) ((seed & 0xffffffffL) % (1L << 31) / 256 % 10));
                }
            }
            pairs += mind.pairs(mind.law).size();
        }
        return pairs;
    }

    int image() {
        image = now.copy();
        return now.all().size();
    }

    int on() {
        if (image == null) {
            return no(-3);
        }
        now = image.copy();
        return now.all().size();
    }

    int count(int what) {
        int gaps = 0;
        for (Someone one : now.all()) {
            gaps += now.gaps(one);
        }
        int[] first = {now.left.size(), now.right.size(), now.rounds(), now.step, now.shift, now.law, gaps, row.size(), letters.length()};
        if (what >= 0 && what < first.length) {
            return first[what];
        }
        return what > 10 && what < 17 ? refusals[what - 10] : -9;
    }
}
