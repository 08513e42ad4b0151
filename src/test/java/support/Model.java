import java.util.ArrayList;
import java.util.Arrays;
import java.util.LinkedHashSet;
import java.util.List;
import java.util.Set;
import java.util.TreeSet;

/**
 * A second program for the same document, written from its words alone and as slow as it likes:
 * conditions stay trees, chains are followed, clashes are looked for by their definition.
 */
final class Model {
    private static final int LOW = -1000001;
    private static final long LONG_LOW = -1000000000000000001L;

    interface Condition {
        boolean holds(int standing);
    }

    static final class Deal {
        int kind;
        int from;
        int to;
        int pick;
        int other = -1;
        int n;
        Condition condition;
    }

    record Move(int pick, int from, int to) { }

    static final class State {
        List<Deal> deals = new ArrayList<>();
        List<Integer> fallen = new ArrayList<>();
        int[] worths = {8, 4, 2};
        int z = 1;

        State twin() {
            State s = new State();
            s.deals.addAll(deals);
            s.fallen.addAll(fallen);
            s.worths = worths.clone();
            s.z = z;
            return s;
        }
    }

    static final class Fault extends RuntimeException {
        private static final long serialVersionUID = 1L;
        final int at;

        Fault(int at) {
            this.at = at;
        }
    }

    private static final List<int[]> ORDERS = new ArrayList<>();

    static {
        for (int a = 0; a < 3; a++) {
            for (int b = 0; b < 3; b++) {
                for (int c = 0; c < 3; c++) {
                    if (a != b && b != c && a != c) {
                        ORDERS.add(new int[] {a, b, c});
                    }
                }
            }
        }
    }

    State now = new State();
    final List<State> pile = new ArrayList<>();
    final StringBuilder tape = new StringBuilder();
    final long[][] sheets = new long[4][];
    final int[] sorts = {-1, -1, -1, -1};
    final Deal[] spots = new Deal[4];
    int[] told = {-1, -1, -1};
    final int[] findings = new int[8];

    private int find(int k) {
        findings[k]++;
        return LOW - k;
    }

    private long findLong(int k) {
        findings[k]++;
        return LONG_LOW - k;
    }

    private static boolean in(int v, int least, int most) {
        return least <= v && v <= most;
    }

    private static int[] ordersOf(int standing) {
        return new int[] {standing / 216, standing / 36 % 6, standing / 6 % 6, standing % 6};
    }

    static int seat(int standing, int year, int club) {
        int[] row = ORDERS.get(ordersOf(standing)[year]);
        for (int p = 0; p < 3; p++) {
            if (row[p] == club) {
                return p;
            }
        }
        throw new IllegalStateException();
    }

    private static int seat(int standing, int pick) {
        return seat(standing, pick / 3, pick % 3);
    }

    private List<Integer> open() {
        List<Integer> all = new ArrayList<>();
        for (int s = 0; s < 1296; s++) {
            if (isOpen(s)) {
                all.add(s);
            }
        }
        return all;
    }

    private boolean isOpen(int s) {
        if (!in(s, 0, 1295)) {
            return false;
        }
        for (int y = 0; y < now.fallen.size(); y++) {
            if (ordersOf(s)[y] != now.fallen.get(y)) {
                return false;
            }
        }
        return true;
    }

    static List<Move> moves(Deal d, int s) {
        List<Move> none = List.of();
        if (d.condition != null && !d.condition.holds(s)) {
            return none;
        }
        int here = seat(s, d.pick);
        if (d.kind == 0 || d.kind == 1 && here >= d.n || d.kind == 4 && here < d.n) {
            return List.of(new Move(d.pick, d.from, d.to));
        }
        if (d.kind == 3) {
            for (int year = d.pick / 3; year < 4; year++) {
                int p = 3 * year + d.pick % 3;
                if (seat(s, p) >= d.n - (year - d.pick / 3)) {
                    return List.of(new Move(p, d.from, d.to));
                }
            }
        }
        if (d.kind == 2 || d.kind == 5) {
            int there = seat(s, d.other);
            if (there < here && (d.kind == 2 || here - there >= d.n)) {
                return List.of(new Move(d.pick, d.from, d.to), new Move(d.other, d.to, d.from));
            }
        }
        return none;
    }

    private static List<Move> movesOf(List<Deal> deals, int s, int pick) {
        List<Move> all = new ArrayList<>();
        for (Deal d : deals) {
            for (Move m : moves(d, s)) {
                if (m.pick() == pick) {
                    all.add(m);
                }
            }
        }
        return all;
    }

    /** The CHAIN; null if it comes to one who had it. */
    private static List<Integer> follow(List<Move> moves, int pick) {
        Set<Integer> chain = new LinkedHashSet<>();
        int at = pick % 3;
        while (at >= 0) {
            if (!chain.add(at)) {
                return null;
            }
            int next = -1;
            for (Move m : moves) {
                if (m.from() == at) {
                    next = m.to();
                }
            }
            at = next;
        }
        return new ArrayList<>(chain);
    }

    private static int clashOf(List<Deal> deals, int s, int pick) {
        List<Move> moves = movesOf(deals, s, pick);
        Set<Integer> froms = new TreeSet<>();
        for (Move m : moves) {
            if (!froms.add(m.from())) {
                return 0;
            }
        }
        List<Integer> chain = follow(moves, pick);
        if (chain == null) {
            return 1;
        }
        return chain.containsAll(froms) ? -1 : 2;
    }

    private boolean take(Deal d) {
        List<Deal> all = new ArrayList<>(now.deals);
        all.add(d);
        for (int s : open()) {
            if (moves(d, s).isEmpty()) {
                continue;
            }
            for (int pick = 0; pick < 12; pick++) {
                int c = clashOf(all, s, pick);
                if (c >= 0) {
                    told = new int[] {s, pick, c};
                    return false;
                }
            }
        }
        now.deals.add(d);
        return true;
    }

    private List<Integer> chainOf(int s, int pick) {
        return follow(movesOf(now.deals, s, pick), pick);
    }

    private int ownerOf(int s, int pick) {
        List<Integer> chain = chainOf(s, pick);
        return chain.get(chain.size() - 1);
    }

    int order(int order, int place) {
        return in(order, 0, 5) && in(place, 0, 2) ? ORDERS.get(order)[place] : find(0);
    }

    int place(int standing, int pick) {
        return in(standing, 0, 1295) && in(pick, 0, 11) ? seat(standing, pick) : find(0);
    }

    int fall(int order) {
        if (!in(order, 0, 5)) {
            return find(0);
        }
        if (now.fallen.size() == 4) {
            return find(3);
        }
        now.fallen.add(order);
        return now.fallen.size();
    }

    int fallen(int year) {
        if (!in(year, 0, 3)) {
            return find(0);
        }
        return year < now.fallen.size() ? now.fallen.get(year) : find(3);
    }

    int draw() {
        now.z = now.z * 1103515245 + 12345;
        List<Integer> all = open();
        return all.get((now.z >>> 8) % all.size());
    }

    private int enter(Deal d) {
        if (d.pick / 3 < now.fallen.size()) {
            return find(3);
        }
        if (now.deals.size() == 12) {
            return find(1);
        }
        return take(d) ? now.deals.size() - 1 : find(4);
    }

    int sale(int kind, int from, int to, int pick, int n) {
        boolean right = List.of(0, 1, 3, 4).contains(kind) && in(from, 0, 2) && in(to, 0, 2) && from != to;
        if (!right || !in(pick, 0, 11) || kind != 0 && !in(n, 1, 2)) {
            return find(0);
        }
        Deal d = new Deal();
        d.kind = kind;
        d.from = from;
        d.to = to;
        d.pick = pick;
        d.n = kind == 0 ? 0 : n;
        return enter(d);
    }

    int swap(int from, int to, int pick, int other, int n) {
        boolean right = in(from, 0, 2) && in(to, 0, 2) && from != to && in(pick, 0, 11) && in(other, 0, 11);
        if (!right || pick == other || pick / 3 != other / 3 || !in(n, 0, 2)) {
            return find(0);
        }
        Deal d = new Deal();
        d.kind = n == 0 ? 2 : 5;
        d.from = from;
        d.to = to;
        d.pick = pick;
        d.other = other;
        d.n = n;
        return enter(d);
    }

    int text() {
        String bytes = tape.toString();
        tape.setLength(0);
        List<Deal> came;
        try {
            came = new TextReader(bytes).read();
        } catch (Fault f) {
            return -1 - f.at;
        }
        List<Deal> before = new ArrayList<>(now.deals);
        for (Deal d : came) {
            if (!take(d)) {
                now.deals = before;
                return find(4);
            }
        }
        return came.size();
    }

    /** TOKENS are cut first, all of them; then read. */
    private final class TextReader {
        final int length;
        final List<String> tokens = new ArrayList<>();
        final List<Integer> places = new ArrayList<>();
        final List<Deal> known = new ArrayList<>(now.deals);
        final List<Deal> came = new ArrayList<>();
        int at;

        TextReader(String bytes) {
            length = bytes.length();
            java.util.regex.Matcher m = java.util.regex.Pattern
                .compile("[a-z]+|[0-9]+|[^ ]", java.util.regex.Pattern.DOTALL).matcher(bytes);
            while (m.find()) {
                tokens.add(m.group());
                places.add(m.start());
            }
        }

        Fault fault() {
            return new Fault(at < places.size() ? places.get(at) : length);
        }

        boolean sees(String token) {
            return at < tokens.size() && tokens.get(at).equals(token);
        }

        void want(String token) {
            if (!sees(token)) {
                throw fault();
            }
            at++;
        }

        int number(int least, int most) {
            if (at >= tokens.size() || !tokens.get(at).matches("0*[0-9]{1,2}")) {
                throw fault();
            }
            int v = Integer.parseInt(tokens.get(at).replaceFirst("^0+(?=.)", ""));
            if (!in(v, least, most)) {
                throw fault();
            }
            at++;
            return v;
        }

        int numberBut(int least, int most, int but) {
            int v = number(least, most);
            if (v == but) {
                at--;
                throw fault();
            }
            return v;
        }

        List<Deal> read() {
            item();
            while (sees(";")) {
                at++;
                item();
            }
            if (at < tokens.size()) {
                throw fault();
            }
            return came;
        }

        void item() {
            if (known.size() == 12) {
                throw fault();
            }
            Deal d = new Deal();
            want("from");
            d.from = number(0, 2);
            want("to");
            d.to = numberBut(0, 2, d.from);
            want("pick");
            d.pick = number(3 * now.fallen.size(), 11);
            List<String> words = List.of("", "guard", "swap", "roll", "tail", "choice");
            for (int kind = 1; kind < 6 && d.kind == 0; kind++) {
                if (sees(words.get(kind))) {
                    at++;
                    d.kind = kind;
                }
            }
            if (d.kind == 2 || d.kind == 5) {
                d.other = numberBut(d.pick / 3 * 3, d.pick / 3 * 3 + 2, d.pick);
            }
            if (d.kind != 0 && d.kind != 2) {
                d.n = number(1, 2);
            }
            if (sees("if")) {
                at++;
                d.condition = either(0);
            }
            known.add(d);
            came.add(d);
        }

        Condition either(int around) {
            List<Condition> parts = new ArrayList<>();
            parts.add(every(around));
            while (sees("or")) {
                at++;
                parts.add(every(around));
            }
            return s -> parts.stream().anyMatch(c -> c.holds(s));
        }

        Condition every(int around) {
            List<Condition> parts = new ArrayList<>();
            parts.add(one(around));
            while (sees("and")) {
                at++;
                parts.add(one(around));
            }
            return s -> parts.stream().allMatch(c -> c.holds(s));
        }

        Condition one(int around) {
            if ((sees("not") || sees("(")) && around >= 6) {
                throw fault();
            }
            if (sees("not")) {
                at++;
                Condition c = one(around + 1);
                return s -> !c.holds(s);
            }
            if (sees("(")) {
                at++;
                Condition c = either(around + 1);
                want(")");
                return c;
            }
            if (sees("ahead")) {
                at++;
                int y = number(0, 3);
                int a = number(0, 2);
                int b = numberBut(0, 2, a);
                return s -> seat(s, y, a) < seat(s, y, b);
            }
            if (sees("at")) {
                at++;
                int y = number(0, 3);
                int a = number(0, 2);
                int n = number(0, 2);
                return s -> seat(s, y, a) == n;
            }
            want("lapsed");
            Deal d = known.get(number(0, known.size() - 1));
            return s -> moves(d, s).isEmpty();
        }
    }

    private boolean isDeal(int k) {
        return in(k, 0, now.deals.size() - 1);
    }

    int of(int k, int what) {
        if (!isDeal(k) || !in(what, 0, 7)) {
            return find(0);
        }
        Deal d = now.deals.get(k);
        int conveying = 0;
        for (int s : open()) {
            conveying += moves(d, s).isEmpty() ? 0 : 1;
        }
        int[] all = {d.kind, d.from, d.to, d.pick, d.other, d.n, d.condition == null ? 0 : 1, conveying};
        return all[what];
    }

    int holds(int k, int standing) {
        if (!isDeal(k) || !in(standing, 0, 1295)) {
            return find(0);
        }
        Condition c = now.deals.get(k).condition;
        return c == null || c.holds(standing) ? 1 : 0;
    }

    int conveys(int k, int standing, int what) {
        if (!isDeal(k) || !in(standing, 0, 1295) || !in(what, 0, 1)) {
            return find(0);
        }
        List<Move> all = moves(now.deals.get(k), standing);
        return what < all.size() ? all.get(what).pick() : find(3);
    }

    int drop() {
        if (now.deals.isEmpty()) {
            return find(3);
        }
        now.deals.remove(now.deals.size() - 1);
        return now.deals.size();
    }

    int prune() {
        int before = now.deals.size();
        List<Integer> open = open();
        now.deals.removeIf(d -> open.stream().allMatch(s -> moves(d, s).isEmpty()));
        return before - now.deals.size();
    }

    int clash(int what) {
        return in(what, 0, 2) ? told[what] : find(0);
    }

    int owner(int standing, int pick) {
        return isOpen(standing) && in(pick, 0, 11) ? ownerOf(standing, pick) : find(0);
    }

    int chain(int standing, int pick, int i) {
        if (!isOpen(standing) || !in(pick, 0, 11)) {
            return find(0);
        }
        List<Integer> chain = chainOf(standing, pick);
        if (i == -1) {
            return chain.size();
        }
        return in(i, 0, chain.size() - 1) ? chain.get(i) : find(3);
    }

    int hand(int standing, int club) {
        if (!isOpen(standing) || !in(club, 0, 2)) {
            return find(0);
        }
        int set = 0;
        for (int p = 0; p < 12; p++) {
            set += ownerOf(standing, p) == club ? 1 << p : 0;
        }
        return set;
    }

    private Set<Integer> ever(int pick) {
        Set<Integer> all = new TreeSet<>();
        for (int s : open()) {
            all.add(ownerOf(s, pick));
        }
        return all;
    }

    int owners(int pick) {
        return in(pick, 0, 11) ? ever(pick).stream().mapToInt(c -> 1 << c).sum() : find(0);
    }

    int sure(int pick) {
        if (!in(pick, 0, 11)) {
            return find(0);
        }
        Set<Integer> all = ever(pick);
        return all.size() == 1 ? all.iterator().next() : find(3);
    }

    int chance(int pick, int club) {
        if (!in(pick, 0, 11) || !in(club, 0, 2)) {
            return find(0);
        }
        return (int) open().stream().filter(s -> ownerOf(s, pick) == club).count();
    }

    int least(int pick, int club) {
        if (!in(pick, 0, 11) || !in(club, 0, 2)) {
            return find(0);
        }
        for (int s : open()) {
            if (ownerOf(s, pick) == club) {
                return s;
            }
        }
        return find(3);
    }

    int price(int place, int v) {
        if (!in(place, 0, 2) || !in(v, 0, 999)) {
            return find(0);
        }
        int was = now.worths[place];
        now.worths[place] = v;
        return was;
    }

    private int worthOf(int s, int club) {
        int sum = 0;
        for (int p = 0; p < 12; p++) {
            sum += ownerOf(s, p) == club ? now.worths[seat(s, p)] : 0;
        }
        return sum;
    }

    int worth(int standing, int club) {
        return isOpen(standing) && in(club, 0, 2) ? worthOf(standing, club) : find(0);
    }

    private long total(int club) {
        long sum = 0;
        for (int s : open()) {
            sum += worthOf(s, club);
        }
        return sum;
    }

    long value(int club) {
        return in(club, 0, 2) ? total(club) : findLong(0);
    }

    int best(int club, int what) {
        if (!in(club, 0, 2) || !in(what, 0, 1)) {
            return find(0);
        }
        int sign = what == 0 ? 1 : -1;
        int best = -1;
        int top = Integer.MIN_VALUE;
        for (int s : open()) {
            int w = sign * worthOf(s, club);
            if (w > top) {
                top = w;
                best = s;
            }
        }
        return best;
    }

    int hope(int club) {
        if (!in(club, 0, 2)) {
            return find(0);
        }
        if (now.fallen.size() == 4) {
            return find(3);
        }
        int best = -1;
        long top = Long.MIN_VALUE;
        for (int order = 0; order < 6; order++) {
            now.fallen.add(order);
            long v = total(club);
            now.fallen.remove(now.fallen.size() - 1);
            if (v > top) {
                top = v;
                best = order;
            }
        }
        return best;
    }

    int rounds(int s, int standing) {
        if (!in(s, 0, 3) || !isOpen(standing)) {
            return find(0);
        }
        if (sheets[s] == null) {
            return find(5);
        }
        if (sheets[s].length != now.deals.size()) {
            return find(6);
        }
        long[] sorted = sheets[s].clone();
        Arrays.sort(sorted);
        for (int i = 0; i < sorted.length; i++) {
            if (sorted[i] != i) {
                return find(4);
            }
        }
        int[] has = {0, 1, 2, 0, 1, 2, 0, 1, 2, 0, 1, 2};
        Set<String> gone = new TreeSet<>();
        int times = 0;
        boolean went = true;
        while (went) {
            went = false;
            times++;
            for (long k : sheets[s]) {
                for (Move m : moves(now.deals.get((int) k), standing)) {
                    if (has[m.pick()] == m.from() && gone.add(k + " " + m.pick())) {
                        has[m.pick()] = m.to();
                        went = true;
                    }
                }
            }
        }
        return times;
    }

    private static long narrow(int sort, long v) {
        return sort == 0 ? (short) v : sort == 1 ? (int) v : v;
    }

    int lays(int s, int standing) {
        if (!in(s, 0, 3) || !isOpen(standing)) {
            return find(0);
        }
        if (sheets[s] == null) {
            return find(5);
        }
        int n = Math.min(12, sheets[s].length);
        for (int p = 0; p < n; p++) {
            sheets[s][p] = ownerOf(standing, p);
        }
        return n;
    }

    int judge(int s, int standing) {
        if (!in(s, 0, 3) || !isOpen(standing)) {
            return find(0);
        }
        if (sheets[s] == null) {
            return find(5);
        }
        for (int p = 0; p < 12; p++) {
            if (p >= sheets[s].length || sheets[s][p] != ownerOf(standing, p)) {
                return 1 + p;
            }
        }
        return sheets[s].length > 12 ? 13 : 0;
    }

    int feed(int bytes, int n) {
        if (!in(n, 1, 4)) {
            return find(0);
        }
        if (tape.length() + n > 120) {
            return find(1);
        }
        for (int i = n; i > 0; i--) {
            tape.append((char) (bytes >> (8 * (i - 1)) & 255));
        }
        return tape.length();
    }

    int wipe() {
        int had = tape.length();
        tape.setLength(0);
        return had;
    }

    int sheet(int s, int sort, int n) {
        if (!in(s, 0, 3) || !in(sort, -1, 2)) {
            return find(0);
        }
        if (sort != -1 && n < 0) {
            return find(6);
        }
        if (sort != -1 && n > 40) {
            return find(0);
        }
        sorts[s] = sort;
        sheets[s] = sort == -1 ? null : new long[n];
        return sort == -1 ? 0 : n;
    }

    int write(int s, int i, long v) {
        if (!in(s, 0, 3)) {
            return find(0);
        }
        if (sheets[s] == null) {
            return find(5);
        }
        if (!in(i, 0, sheets[s].length - 1)) {
            return find(0);
        }
        sheets[s][i] = narrow(sorts[s], v);
        return 1;
    }

    long item(int s, int i) {
        if (!in(s, 0, 3)) {
            return findLong(0);
        }
        if (sheets[s] == null) {
            return findLong(5);
        }
        return in(i, 0, sheets[s].length - 1) ? sheets[s][i] : findLong(0);
    }

    int copy(int s, int i, int t, int j, int n) {
        if (!in(s, 0, 3) || !in(t, 0, 3)) {
            return find(0);
        }
        if (sheets[s] == null || sheets[t] == null) {
            return find(5);
        }
        if (sorts[s] != sorts[t]) {
            return find(2);
        }
        if (i < 0 || j < 0 || n < 0 || (long) i + n > sheets[s].length || (long) j + n > sheets[t].length) {
            return find(0);
        }
        long[] as = sheets[s].clone();
        for (int m = 0; m < n; m++) {
            sheets[t][j + m] = as[i + m];
        }
        return n;
    }

    int hold(int spot, int k) {
        if (!in(spot, 0, 3) || !isDeal(k)) {
            return find(0);
        }
        spots[spot] = now.deals.get(k);
        return 1;
    }

    int taken(int spot, int as) {
        if (!in(spot, 0, 3) || !in(as, 0, 5)) {
            return find(0);
        }
        if (spots[spot] == null) {
            return find(5);
        }
        List<List<Integer>> under = List.of(List.of(0, 1, 2, 3, 4, 5), List.of(1, 3, 4), List.of(2, 5),
            List.of(3), List.of(4), List.of(5));
        return under.get(as).contains(spots[spot].kind) ? now.deals.indexOf(spots[spot]) : find(2);
    }

    int image() {
        if (pile.size() == 6) {
            return find(1);
        }
        pile.add(now.twin());
        return pile.size();
    }

    int back() {
        if (pile.isEmpty()) {
            return find(3);
        }
        now = pile.remove(pile.size() - 1);
        return now.deals.size();
    }

    int seed(int v) {
        int was = now.z;
        now.z = v;
        return was;
    }

    int count(int what) {
        if (!in(what, 0, 6)) {
            return find(0);
        }
        int held = 0;
        for (Deal d : spots) {
            held += d == null ? 0 : 1;
        }
        int[] all = {now.deals.size(), now.fallen.size(), open().size(), pile.size(), now.z, tape.length(), held};
        return all[what];
    }

    int status(int which) {
        if (which == -1) {
            return Arrays.stream(findings).sum();
        }
        return in(which, 0, 7) ? findings[which] : find(0);
    }
}
