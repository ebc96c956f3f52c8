import java.util.ArrayDeque;
import java.util.ArrayList;
import java.util.Arrays;
import java.util.Deque;
import java.util.List;

/**
 * The document once more, in the slowest and plainest way, and built otherwise than the class:
 * the text goes through an automaton letter by letter, plans are counted through one by one,
 * the line takes each order of claims, each image is a copy of objects.
 */
final class PlainModel {
    static final int NONE = -1, UNKNOWN = -1000000001, OUTSIDE = -1000000002, NOT = -1000000003, FULL = -1000000004;

    record Claim(int topic, int bold) {
    }

    record Guest(int pride, List<Claim> claims) {
    }

    record Host(int kind, int noes) {
    }

    record Told(boolean there, int truths, List<Guest> guests, List<Host> hosts) {
    }

    /** Section 2. */
    static final class Now {
        int[] said, by, at, left;
        boolean[] up, walks;
        int glad, insults, hours, evenings;

        Now copy() {
            Now c = new Now();
            c.said = said.clone();
            c.by = by.clone();
            c.at = at.clone();
            c.left = left.clone();
            c.up = up.clone();
            c.walks = walks.clone();
            c.glad = glad;
            c.insults = insults;
            c.hours = hours;
            c.evenings = evenings;
            return c;
        }
    }

    private final List<Integer> text = new ArrayList<>();
    private Told told = new Told(false, 0, List.of(), List.of());
    private Now now = fresh();
    private Deque<Now> past = new ArrayDeque<>();
    private final Now[] images = new Now[2];
    private final long[] imageSeeds = new long[2];
    private final List<int[]> heard = new ArrayList<>();
    private final List<int[]> book = new ArrayList<>();
    private long seed = 0;
    private int faultPlace = NONE;

    private Now fresh() {
        Now n = new Now();
        seat(n);
        return n;
    }

    private void seat(Now n) {
        int guests = told.guests().size();
        n.said = new int[guests];
        n.by = new int[guests];
        n.at = new int[guests];
        Arrays.fill(n.by, NONE);
        Arrays.fill(n.at, NONE);
        n.up = new boolean[guests];
        Arrays.fill(n.up, true);
        n.walks = new boolean[guests];
        n.left = told.hosts().stream().mapToInt(Host::noes).toArray();
    }

    private boolean noGuest(int g) {
        return g < 0 || g >= told.guests().size();
    }

    private boolean noHost(int h) {
        return h < 0 || h >= told.hosts().size();
    }

    private static boolean notIn(int v, int from, int to) {
        return v < from || v > to;
    }

    private interface Test {
        boolean of(int i);
    }

    private static int set(int n, Test test) {
        int set = 0;
        for (int i = 0; i < n; i++) {
            if (test.of(i)) {
                set += 1 << i;
            }
        }
        return set;
    }

    // ---- the evening

    int feed(int letter) {
        if (notIn(letter, 0, 255)) {
            return OUTSIDE;
        }
        if (text.size() == 240) {
            return FULL;
        }
        text.add(letter);
        return text.size();
    }

    /** Words and whole numbers with their places; behind them the end. */
    private record Word(int place, int letter, String figures) {
    }

    private static final int A_NUMBER = 1000, THE_END = 1001;

    private List<Word> words() {
        List<Word> words = new ArrayList<>();
        int i = 0;
        while (i < text.size()) {
            int c = text.get(i);
            if (c == 32) {
                i++;
            } else if (c >= 48 && c <= 57) {
                int from = i;
                StringBuilder figures = new StringBuilder();
                while (i < text.size() && text.get(i) >= 48 && text.get(i) <= 57) {
                    figures.append((char) (int) text.get(i++));
                }
                words.add(new Word(from, A_NUMBER, figures.toString()));
            } else {
                words.add(new Word(i++, c, ""));
            }
        }
        words.add(new Word(text.size(), THE_END, ""));
        return words;
    }

    /**
     * What is waited for: T the first clause, C a clause, F P Q K N a number of that name (Q: a claim),
     * E the end of a clause, D a comma or the end of a clause.
     */
    int evening() {
        List<Word> words = words();
        text.clear();
        char waits = 'T';
        int truths = 0;
        List<Guest> guests = new ArrayList<>();
        List<Host> hosts = new ArrayList<>();
        int kind = 0;
        for (Word w : words) {
            int c = w.letter();
            boolean end = c == THE_END;
            int fault = 0;
            if (waits == 'T' || waits == 'C') {
                if (end) {
                    break;
                }
                if (waits == 'T') {
                    fault = c == 't' ? 0 : 1;
                    waits = 'F';
                } else if (c == 't' || c == 'g' && guests.size() == 6 || c == 'h' && hosts.size() == 4) {
                    fault = 3;
                } else if (c == 'g' || c == 'h') {
                    waits = c == 'g' ? 'P' : 'K';
                } else {
                    fault = 1;
                }
            } else if (waits == 'E') {
                fault = c == ';' ? 0 : 1;
                waits = 'C';
            } else if (waits == 'D') {
                if (c == ',' && guests.get(guests.size() - 1).claims().size() < 6) {
                    waits = 'Q';
                } else {
                    fault = c == ';' ? 0 : 1;
                    waits = 'C';
                }
            } else if (c != A_NUMBER) {
                fault = 1;
            } else {
                int most = waits == 'F' ? 255 : waits == 'Q' ? 79 : waits == 'K' ? 3 : 9;
                if (w.figures().length() > 3 || Integer.parseInt(w.figures()) > most) {
                    fault = 2;
                } else {
                    int v = Integer.parseInt(w.figures());
                    switch (waits) {
                        case 'F' -> { truths = v; waits = 'E'; }
                        case 'P' -> { guests.add(new Guest(v, new ArrayList<>())); waits = 'Q'; }
                        case 'Q' -> { guests.get(guests.size() - 1).claims().add(new Claim(v / 10, v % 10)); waits = 'D'; }
                        case 'K' -> { kind = v; waits = 'N'; }
                        default -> { hosts.add(new Host(kind, v)); waits = 'E'; }
                    }
                }
            }
            if (fault != 0) {
                faultPlace = w.place();
                return -10 - fault;
            }
        }
        faultPlace = NONE;
        told = new Told(waits == 'C', truths, guests, hosts);
        now = fresh();
        past.clear();
        images[0] = images[1] = null;
        heard.clear();
        book.clear();
        return guests.size();
    }

    int fault() {
        return faultPlace;
    }

    int told(int what) {
        int n = told.guests().size();
        return switch (what) {
            case 0 -> told.there() ? 1 : 0;
            case 1 -> n;
            case 2 -> told.hosts().size();
            case 3 -> told.truths();
            case 4 -> text.size();
            case 5 -> now.hours;
            case 6 -> now.evenings;
            case 7 -> now.glad;
            case 8 -> now.insults;
            case 9 -> set(n, g -> now.up[g]);
            case 10 -> set(n, g -> now.by[g] != NONE);
            case 11 -> set(n, g -> now.walks[g]);
            case 12 -> set(n, g -> told.guests().get(g).claims().stream().allMatch(c -> isTrue(c.topic())));
            case 13 -> set(8, t -> told.guests().stream().noneMatch(x -> claims(x, t)));
            case 14 -> set(n, this::meanly);
            case 15 -> leastPleased();
            case 16 -> heard.size();
            case 17 -> book.size();
            case 18 -> past.size();
            default -> OUTSIDE;
        };
    }

    private boolean isTrue(int topic) {
        return told.truths() / (1 << topic) % 2 == 1;
    }

    private static boolean claims(Guest x, int topic) {
        return x.claims().stream().anyMatch(c -> c.topic() == topic);
    }

    private boolean meanly(int g) {
        if (now.by[g] == NONE) {
            return false;
        }
        for (int k = 0; k < told.guests().get(g).claims().size(); k++) {
            if (pleases(g, now.by[g], k, k) > pleases(g, now.by[g], now.at[g], now.at[g])) {
                return true;
            }
        }
        return false;
    }

    private int leastPleased() {
        for (int joy = 0; joy < 100; joy++) {
            for (int g = 0; g < told.guests().size(); g++) {
                if (now.by[g] != NONE && pleases(g, now.by[g], now.at[g], now.at[g]) == joy) {
                    return g;
                }
            }
        }
        return NONE;
    }

    private int pleases(int g, int h, int k, int ahead) {
        Guest guest = told.guests().get(g);
        Claim c = guest.claims().get(k);
        int joy = ahead;
        if (isTrue(c.topic())) {
            joy += guest.pride();
        }
        int kind = told.hosts().get(h).kind();
        if (kind == 0) {
            joy += c.bold();
        } else if (kind == 1) {
            joy += c.bold() / 2;
        } else if (kind == 2 && !isTrue(c.topic())) {
            joy += c.bold() + 5;
        } else if (kind == 2) {
            joy += c.bold() < 3 ? 0 : c.bold() - 3;
        } else {
            joy += 9 - c.bold();
        }
        return joy;
    }

    int guest(int g, int what) {
        if (noGuest(g)) {
            return UNKNOWN;
        }
        Guest guest = told.guests().get(g);
        return switch (what) {
            case 0 -> guest.pride();
            case 1 -> guest.claims().size();
            case 2 -> now.said[g];
            case 3 -> now.by[g];
            case 4 -> now.at[g];
            case 5 -> {
                int first = NONE;
                for (int k = guest.claims().size() - 1; k >= 0; k--) {
                    first = isTrue(guest.claims().get(k).topic()) ? first : k;
                }
                yield first;
            }
            default -> OUTSIDE;
        };
    }

    int claim(int g, int k, int what) {
        if (noGuest(g)) {
            return UNKNOWN;
        }
        if (notIn(k, 0, 5) || notIn(what, 0, 1)) {
            return OUTSIDE;
        }
        List<Claim> claims = told.guests().get(g).claims();
        if (k >= claims.size()) {
            return NONE;
        }
        return what == 0 ? claims.get(k).topic() : claims.get(k).bold();
    }

    int host(int h, int what) {
        if (noHost(h)) {
            return UNKNOWN;
        }
        if (notIn(what, 0, 2)) {
            return OUTSIDE;
        }
        return new int[] {told.hosts().get(h).kind(), told.hosts().get(h).noes(), now.left[h]}[what];
    }

    // ---- deeds

    private void deed() {
        past.addLast(now.copy());
        if (past.size() > 30) {
            past.removeFirst();
        }
    }

    int say(int g) {
        if (noGuest(g)) {
            return UNKNOWN;
        }
        if (!now.up[g] || now.said[g] == told.guests().get(g).claims().size()) {
            return NOT;
        }
        deed();
        return now.said[g]++;
    }

    private boolean noNo(int h, int g) {
        return now.left[h] == 0 || !now.up[g] || now.said[g] == 0 || now.by[g] != NONE;
    }

    private int doNo(int h, int g) {
        now.by[g] = h;
        now.at[g] = now.said[g] - 1;
        now.left[h]--;
        int joy = pleases(g, h, now.at[g], now.at[g]);
        now.glad = Math.min(999999, now.glad + joy);
        return joy;
    }

    int no(int h, int g) {
        if (noHost(h) || noGuest(g)) {
            return UNKNOWN;
        }
        if (noNo(h, g)) {
            return NOT;
        }
        deed();
        return doNo(h, g);
    }

    int share(int g, int q) {
        if (noGuest(g) || noGuest(q) || g == q) {
            return UNKNOWN;
        }
        if (!now.up[g] || now.said[g] == 0 || now.by[g] != NONE || now.by[q] == NONE) {
            return NOT;
        }
        deed();
        now.by[g] = now.by[q];
        now.at[g] = now.said[g] - 1;
        int half = pleases(g, now.by[g], now.at[g], now.at[g]) / 2;
        now.glad = Math.min(999999, now.glad + half);
        return half;
    }

    private int doBed(int g) {
        now.up[g] = false;
        if (now.by[g] == NONE) {
            now.insults = Math.min(999999, now.insults + 1);
            now.walks[g] = true;
            return 1;
        }
        return 0;
    }

    int bed(int g) {
        if (noGuest(g)) {
            return UNKNOWN;
        }
        if (!now.up[g]) {
            return NOT;
        }
        deed();
        return doBed(g);
    }

    private void doHour() {
        boolean[] upAhead = now.up.clone();
        for (int g = 0; g < upAhead.length; g++) {
            if (now.walks[g]) {
                now.walks[g] = false;
                now.up[g] = true;
            } else if (upAhead[g] && now.said[g] < told.guests().get(g).claims().size()) {
                now.said[g]++;
            }
        }
        now.hours++;
    }

    int hour(int n) {
        return hours(n, false);
    }

    int drift(int n) {
        return hours(n, true);
    }

    private int hours(int n, boolean byDraws) {
        if (notIn(n, 1, 20)) {
            return OUTSIDE;
        }
        if (!told.there()) {
            return NOT;
        }
        if (now.hours > 90000) {
            return FULL;
        }
        for (int i = 0; i < n; i++) {
            deed();
            if (byDraws && !told.guests().isEmpty() && !told.hosts().isEmpty()) {
                doDraws();
            }
            doHour();
        }
        return now.hours;
    }

    private int draw(int n) {
        seed = (seed * 1103515245L + 12345L) % (1L << 31);
        return (int) (seed / 65536 % n);
    }

    private void doDraws() {
        int what = draw(4);
        int g = draw(told.guests().size());
        int h = draw(told.hosts().size());
        if (what < 2) {
            if (!noNo(h, g)) {
                doNo(h, g);
            }
        } else if (what == 2 && now.up[g]) {
            doBed(g);
        }
    }

    int anew() {
        if (!told.there()) {
            return NOT;
        }
        if (now.evenings == 90000) {
            return FULL;
        }
        deed();
        seat(now);
        return ++now.evenings;
    }

    int undo(int n) {
        if (notIn(n, 1, 30)) {
            return OUTSIDE;
        }
        if (past.size() < n) {
            return NOT;
        }
        for (int i = 0; i < n; i++) {
            now = past.removeLast();
        }
        return now.hours;
    }

    // ---- tried

    int joy(int g, int h, int k) {
        if (noGuest(g) || noHost(h)) {
            return UNKNOWN;
        }
        if (notIn(k, 0, 5)) {
            return OUTSIDE;
        }
        return k < told.guests().get(g).claims().size() ? pleases(g, h, k, k) : NONE;
    }

    private int firstOpen(int g) {
        return now.said[g] == 0 ? 0 : now.said[g] - 1;
    }

    int best(int g, int what) {
        if (noGuest(g)) {
            return UNKNOWN;
        }
        if (notIn(what, 0, 2)) {
            return OUTSIDE;
        }
        int[] best = {NONE, NONE, NONE};
        if (now.by[g] == NONE) {
            for (int k = told.guests().get(g).claims().size() - 1; k >= firstOpen(g); k--) {
                for (int h = told.hosts().size() - 1; h >= 0; h--) {
                    if (now.left[h] > 0 && pleases(g, h, k, k) >= best[0]) {
                        best = new int[] {pleases(g, h, k, k), k, h};
                    }
                }
            }
        }
        return best[what];
    }

    int plan(int g) {
        if (g != NONE && noGuest(g)) {
            return UNKNOWN;
        }
        int guests = told.guests().size();
        int hosts = told.hosts().size();
        int plans = 1;
        for (int i = 0; i < guests; i++) {
            plans *= hosts + 1;
        }
        int most = NONE;
        int mostPlan = 0;
        // The last guest's choice is the last figure; the figure for none is the greatest.
        for (int plan = 0; plan < plans; plan++) {
            int joy = joyOfPlan(plan, guests, hosts);
            if (joy > most) {
                most = joy;
                mostPlan = plan;
            }
        }
        return g == NONE ? most : choice(mostPlan, g, guests, hosts);
    }

    private static int choice(int plan, int g, int guests, int hosts) {
        int rest = plan;
        for (int i = guests - 1; i > g; i--) {
            rest /= hosts + 1;
        }
        int h = rest % (hosts + 1);
        return h == hosts ? NONE : h;
    }

    private int joyOfPlan(int plan, int guests, int hosts) {
        int[] used = new int[hosts];
        int sum = 0;
        for (int g = 0; g < guests; g++) {
            int h = choice(plan, g, guests, hosts);
            if (h != NONE) {
                if (now.by[g] != NONE || ++used[h] > now.left[h]) {
                    return NONE;
                }
                int most = 0;
                for (int k = firstOpen(g); k < told.guests().get(g).claims().size(); k++) {
                    most = Math.max(most, pleases(g, h, k, k));
                }
                sum += most;
            }
        }
        return sum;
    }

    private int worth(int g, int h, List<Integer> left) {
        if (left.isEmpty()) {
            return 0;
        }
        int sum = 0;
        for (Integer k : left) {
            sum += Math.max(1000 * pleases(g, h, k, 0), worth(g, h, without(left, k)));
        }
        return sum / left.size();
    }

    private static List<Integer> without(List<Integer> list, Integer one) {
        List<Integer> rest = new ArrayList<>(list);
        rest.remove(one);
        return rest;
    }

    private List<Integer> left(int g) {
        List<Integer> left = new ArrayList<>();
        for (int k = now.said[g]; k < told.guests().get(g).claims().size(); k++) {
            left.add(k);
        }
        return left;
    }

    int line(int g, int h) {
        return noGuest(g) || noHost(h) ? UNKNOWN : worth(g, h, left(g));
    }

    int now(int g, int h, int k) {
        if (noGuest(g) || noHost(h)) {
            return UNKNOWN;
        }
        if (notIn(k, 0, 5)) {
            return OUTSIDE;
        }
        if (!left(g).contains(k)) {
            return NOT;
        }
        return 1000 * pleases(g, h, k, 0) >= worth(g, h, without(left(g), k)) ? 1 : 0;
    }

    int agree(int g, int q) {
        if (noGuest(g) || noGuest(q) || g == q) {
            return UNKNOWN;
        }
        return set(8, t -> claims(told.guests().get(g), t) && claims(told.guests().get(q), t));
    }

    int boldest(int topic) {
        if (notIn(topic, 0, 7)) {
            return OUTSIDE;
        }
        for (int bold = 9; bold >= 0; bold--) {
            for (int g = 0; g < told.guests().size(); g++) {
                if (told.guests().get(g).claims().contains(new Claim(topic, bold))) {
                    return g;
                }
            }
        }
        return NONE;
    }

    int dry(int n, int q) {
        if (notIn(n, 0, 60) || notIn(q, 0, 100)) {
            return OUTSIDE;
        }
        java.math.BigInteger odds = java.math.BigInteger.valueOf(1000000000);
        for (int i = 0; i < n; i++) {
            odds = odds.multiply(java.math.BigInteger.valueOf(q)).divide(java.math.BigInteger.valueOf(100));
        }
        return odds.intValueExact();
    }

    // ---- what was heard

    int hear(int topic, boolean claims) {
        if (notIn(topic, 0, 7)) {
            return OUTSIDE;
        }
        if (heard.size() == 6) {
            return FULL;
        }
        heard.add(new int[] {topic, claims ? 1 : 0});
        return heard.size();
    }

    int couldBe() {
        return set(told.guests().size(),
            g -> heard.stream().allMatch(e -> claims(told.guests().get(g), e[0]) == (e[1] == 1)));
    }

    int ask() {
        int who = couldBe();
        int n = Integer.bitCount(who);
        int best = NONE;
        int least = 99;
        for (int topic = 7; topic >= 0; topic--) {
            int t = topic;
            int yes = Integer.bitCount(who & set(told.guests().size(), g -> claims(told.guests().get(g), t)));
            if (yes > 0 && yes < n && Math.max(yes, n - yes) <= least) {
                least = Math.max(yes, n - yes);
                best = topic;
            }
        }
        return best;
    }

    int write(int g, int h) {
        if (noGuest(g) || h != NONE && noHost(h)) {
            return UNKNOWN;
        }
        if (book.size() == 20) {
            return FULL;
        }
        book.add(new int[] {g, h});
        return book.size();
    }

    int judge() {
        for (int i = 0; i < book.size(); i++) {
            if (now.by[book.get(i)[0]] != book.get(i)[1]) {
                return i;
            }
        }
        return NONE;
    }

    int tear() {
        int had = heard.size() + book.size();
        heard.clear();
        book.clear();
        return had;
    }

    // ---- images

    int seed(int v) {
        if (v < 0) {
            return OUTSIDE;
        }
        int was = (int) seed;
        seed = v;
        return was;
    }

    int keep(int i) {
        if (notIn(i, 0, 1)) {
            return UNKNOWN;
        }
        images[i] = now.copy();
        imageSeeds[i] = seed;
        past.clear();
        return 1;
    }

    int goBack(int i) {
        if (notIn(i, 0, 1)) {
            return UNKNOWN;
        }
        if (images[i] == null) {
            return NOT;
        }
        now = images[i].copy();
        seed = imageSeeds[i];
        past.clear();
        return 1;
    }
}
