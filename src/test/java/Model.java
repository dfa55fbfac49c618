import java.util.ArrayDeque;
import java.util.ArrayList;
import java.util.Collections;
import java.util.List;
import java.util.TreeSet;

/** The document told a second time, as plainly as the library allows and with no thought of cost. */
final class Model {
    static final int NONE = -1, UNKNOWN = -1000000001, OUTSIDE = -1000000002, NOT = -1000000003, FULL = -1000000004;

    /** A fault of a text, thrown where it is met. */
    private static final class Fault extends RuntimeException {
        private static final long serialVersionUID = 1L;
        final int kind;
        final int at;

        Fault(int kind, int at) {
            this.kind = kind;
            this.at = at;
        }
    }

    /** A word: its sign ('n' for a number, '$' for the end), its place, and a number's figures. */
    private record Word(char sign, int at, String figures) { }

    private static final class One {
        boolean alive = true;
        Integer voice;
        TreeSet<Integer> jar = new TreeSet<>();
        int a = 9;
        int b = 9;

        One copy() {
            One one = new One();
            one.alive = alive;
            one.voice = voice;
            one.jar.addAll(jar);
            one.a = a;
            one.b = b;
            return one;
        }

        int used() {
            return voice == null ? 9 : voice;
        }

        void get(int v) {
            if (voice != null) {
                jar.add(voice);
            }
            voice = v;
        }
    }

    private static final class State {
        final List<One> ones = new ArrayList<>();
        int deaths;

        State copy() {
            State state = new State();
            for (One one : ones) {
                state.ones.add(one.copy());
            }
            state.deaths = deaths;
            return state;
        }

        One leastSilent() {
            for (One one : ones) {
                if (one.alive && one.voice == null) {
                    return one;
                }
            }
            return null;
        }

        int die(int p) {
            One dead = ones.get(p);
            dead.alive = false;
            deaths++;
            One heir = null;
            if (dead.voice != null) {
                if (dead.a != 9 && ones.get(dead.a).alive) {
                    heir = ones.get(dead.a);
                } else if (dead.b != 9 && ones.get(dead.b).alive) {
                    heir = ones.get(dead.b);
                } else {
                    heir = leastSilent();
                }
                if (heir != null) {
                    heir.get(dead.voice);
                }
                dead.voice = null;
            }
            for (int v : dead.jar) {
                One next = leastSilent();
                if (next != null) {
                    next.get(v);
                }
            }
            dead.jar.clear();
            return heir == null ? NONE : ones.indexOf(heir);
        }

        void sell(int p, int q) {
            One seller = ones.get(p);
            ones.get(q).get(seller.voice);
            seller.voice = seller.jar.pollFirst();
        }
    }

    private StringBuilder text = new StringBuilder();
    private int faultAt = NONE;
    private List<Integer> ranges = new ArrayList<>();
    private List<Integer> doors = new ArrayList<>();
    private List<Integer> parts = new ArrayList<>();
    private State now = new State();
    private final ArrayDeque<State> past = new ArrayDeque<>();
    private final State[] images = new State[2];
    private final long[] imageSeeds = new long[2];
    private long seed;
    private final List<int[]> seen = new ArrayList<>();
    private final List<int[]> known = new ArrayList<>();
    private final List<int[]> book = new ArrayList<>();

    // ---- the parish

    int feed(int letter) {
        if (letter < 0 || letter > 255) {
            return OUTSIDE;
        }
        if (text.length() == 240) {
            return FULL;
        }
        text.append((char) letter);
        return text.length();
    }

    private static List<Word> words(String text) {
        List<Word> words = new ArrayList<>();
        for (int i = 0; i < text.length(); i++) {
            char sign = text.charAt(i);
            if (sign >= '0' && sign <= '9') {
                int end = i;
                while (end < text.length() && "0123456789".indexOf(text.charAt(end)) >= 0) {
                    end++;
                }
                words.add(new Word('n', i, text.substring(i, end)));
                i = end - 1;
            } else if (sign != ' ') {
                words.add(new Word(sign == 'n' || sign == '$' ? '?' : sign, i, ""));
            }
        }
        words.add(new Word('$', text.length(), ""));
        return words;
    }

    private static Word need(ArrayDeque<Word> words, char sign) {
        Word word = words.removeFirst();
        if (word.sign() != sign) {
            throw new Fault(1, word.at());
        }
        return word;
    }

    private static int bounded(Word number, int most) {
        if (number.figures().length() > 3 || Integer.parseInt(number.figures()) > most) {
            throw new Fault(2, number.at());
        }
        return Integer.parseInt(number.figures());
    }

    private static int heir(Word number, int p, int persons) {
        int heir = bounded(number, 9);
        if (heir != 9 && heir >= persons) {
            throw new Fault(2, number.at());
        }
        if (heir == p) {
            throw new Fault(4, number.at());
        }
        return heir;
    }

    private static Model read(String text) {
        Model draft = new Model();
        TreeSet<Integer> willed = new TreeSet<>();
        ArrayDeque<Word> words = new ArrayDeque<>(words(text));
        while (words.peekFirst().sign() != '$') {
            Word word = words.removeFirst();
            int persons = draft.ranges.size();
            boolean over = word.sign() == 'p' && persons == 7 || word.sign() == 'd' && draft.doors.size() == 6
                || word.sign() == 'c' && !draft.parts.isEmpty();
            if (over) {
                throw new Fault(3, word.at());
            }
            if (word.sign() == 'p') {
                int r = bounded(need(words, 'n'), 9);
                One one = new One();
                one.voice = r == 9 ? null : persons;
                draft.ranges.add(r);
                draft.now.ones.add(one);
            } else if (word.sign() == 'w') {
                Word number = need(words, 'n');
                int p = bounded(number, persons - 1);
                if (!willed.add(p)) {
                    throw new Fault(4, number.at());
                }
                draft.now.ones.get(p).a = heir(need(words, 'n'), p, persons);
                draft.now.ones.get(p).b = heir(need(words, 'n'), p, persons);
            } else if (word.sign() == 'd') {
                draft.doors.add(bounded(need(words, 'n'), 127));
            } else if (word.sign() == 'c') {
                draft.parts.add(bounded(need(words, 'n'), 8));
                while (words.peekFirst().sign() == ',' && draft.parts.size() < 6) {
                    words.removeFirst();
                    draft.parts.add(bounded(need(words, 'n'), 8));
                }
            } else {
                throw new Fault(1, word.at());
            }
            need(words, ';');
        }
        return draft;
    }

    int parish() {
        String read = text.toString();
        text = new StringBuilder();
        try {
            Model draft = read(read);
            faultAt = NONE;
            ranges = draft.ranges;
            doors = draft.doors;
            parts = draft.parts;
            now = draft.now;
        } catch (Fault fault) {
            faultAt = fault.at;
            return -10 - fault.kind;
        }
        past.clear();
        images[0] = null;
        images[1] = null;
        tear();
        return ranges.size();
    }

    int fault() {
        return faultAt;
    }

    private int persons() {
        return ranges.size();
    }

    private boolean unknown(int p) {
        return p < 0 || p >= persons();
    }

    private int lost() {
        int set = 0;
        for (int v = 0; v < persons(); v++) {
            boolean had = ranges.get(v) == 9;
            for (One one : now.ones) {
                had |= one.alive && (one.used() == v || one.jar.contains(v));
            }
            set |= had ? 0 : 1 << v;
        }
        return set;
    }

    int told(int what) {
        int alive = 0;
        int silent = 0;
        for (int p = 0; p < persons(); p++) {
            alive |= now.ones.get(p).alive ? 1 << p : 0;
            silent |= now.ones.get(p).alive && now.ones.get(p).voice == null ? 1 << p : 0;
        }
        int[] all = {persons(), doors.size(), parts.size(), text.length(), now.deaths, alive, silent, lost(),
            seen.size(), known.size(), book.size(), past.size()};
        return what < 0 || what >= all.length ? OUTSIDE : all[what];
    }

    private int open(One one) {
        int set = 0;
        for (int d = 0; d < doors.size(); d++) {
            if (one.voice != null && (doors.get(d) & 1 << one.voice) != 0) {
                set += 1 << d;
            }
        }
        return set;
    }

    int person(int p, int what) {
        if (unknown(p)) {
            return UNKNOWN;
        }
        One one = now.ones.get(p);
        int jar = 0;
        for (int v : one.jar) {
            jar += 1 << v;
        }
        int[] all = {one.used(), jar, one.a, one.b, open(one), one.alive ? 1 : 0};
        return what < 0 || what >= all.length ? OUTSIDE : all[what];
    }

    int range(int v) {
        return unknown(v) ? UNKNOWN : ranges.get(v);
    }

    int door(int d) {
        return d < 0 || d >= doors.size() ? UNKNOWN : doors.get(d);
    }

    // ---- what is done

    private void remember() {
        past.addLast(now.copy());
        if (past.size() > 20) {
            past.removeFirst();
        }
    }

    int die(int p) {
        if (unknown(p)) {
            return UNKNOWN;
        }
        if (!now.ones.get(p).alive) {
            return NOT;
        }
        remember();
        return now.die(p);
    }

    private boolean canSell(int p, int q) {
        return now.ones.get(p).alive && now.ones.get(q).alive && now.ones.get(p).voice != null;
    }

    int sell(int p, int q) {
        if (unknown(p) || unknown(q) || p == q) {
            return UNKNOWN;
        }
        if (!canSell(p, q)) {
            return NOT;
        }
        remember();
        now.sell(p, q);
        return now.ones.get(p).used();
    }

    int putBy(int p, int v) {
        if (unknown(p) || v < 0 || v > 6) {
            return UNKNOWN;
        }
        if (!now.ones.get(p).alive || !now.ones.get(p).jar.contains(v)) {
            return NOT;
        }
        remember();
        int before = now.ones.get(p).used();
        now.ones.get(p).jar.remove(v);
        now.ones.get(p).get(v);
        return before;
    }

    int will(int p, int a, int b) {
        if (unknown(p) || a == p || b == p || a != 9 && unknown(a) || b != 9 && unknown(b)) {
            return UNKNOWN;
        }
        if (!now.ones.get(p).alive) {
            return NOT;
        }
        remember();
        One one = now.ones.get(p);
        int before = 10 * one.a + one.b;
        one.a = a;
        one.b = b;
        return before;
    }

    private int draw(int n) {
        seed = (seed * 1103515245L + 12345L) % (1L << 31);
        return (int) (seed / 65536 % n);
    }

    int drift(int n) {
        if (n < 1 || n > 60) {
            return OUTSIDE;
        }
        if (persons() == 0) {
            return NOT;
        }
        remember();
        for (int i = 0; i < n; i++) {
            int p = draw(persons());
            int lot = draw(3);
            int q = (p + 1) % persons();
            if (lot == 0 && now.ones.get(p).alive) {
                now.die(p);
            }
            if (lot == 1 && p != q && canSell(p, q)) {
                now.sell(p, q);
            }
        }
        return told(5);
    }

    int undo() {
        if (past.isEmpty()) {
            return NOT;
        }
        now = past.removeLast();
        return past.size();
    }

    // ---- tried

    private List<Integer> order(int order) {
        List<Integer> persons = new ArrayList<>();
        for (char figure : Integer.toString(order).toCharArray()) {
            int p = figure - '1';
            if (unknown(p) || !now.ones.get(p).alive || persons.contains(p)) {
                return null;
            }
            persons.add(p);
        }
        return persons;
    }

    private static State behind(State start, List<Integer> order) {
        State state = start.copy();
        for (int p : order) {
            state.die(p);
        }
        return state;
    }

    int after(int order, int p) {
        if (unknown(p)) {
            return UNKNOWN;
        }
        return order(order) == null ? OUTSIDE : behind(now, order(order)).ones.get(p).used();
    }

    int whose(int order, int v) {
        if (v < 0 || v > 6) {
            return UNKNOWN;
        }
        if (order(order) == null) {
            return OUTSIDE;
        }
        State state = behind(now, order(order));
        for (int p = 0; p < persons(); p++) {
            if (state.ones.get(p).used() == v) {
                return p;
            }
        }
        return NONE;
    }

    private boolean reaches(State state, int set, List<Integer> order, int p, int v) {
        if (set == 0) {
            return behind(state, order).ones.get(p).used() == v;
        }
        int x = Integer.numberOfTrailingZeros(set);
        for (int a = 0; a <= 9; a++) {
            if (a != x && (a < persons() || a == 9)) {
                State other = state.copy();
                other.ones.get(x).a = a;
                other.ones.get(x).b = 9;
                if (reaches(other, set & set - 1, order, p, v)) {
                    return true;
                }
            }
        }
        return false;
    }

    int wills(int order, int p, int v, int what) {
        if (unknown(p) || unknown(v) || ranges.get(v) == 9) {
            return UNKNOWN;
        }
        if (what < 0 || what > 1 || order(order) == null) {
            return OUTSIDE;
        }
        for (int size = 0; size <= 2; size++) {
            for (int set = 0; set < 1 << persons(); set++) {
                if (Integer.bitCount(set) == size && reaches(now, set, order(order), p, v)) {
                    return what == 0 ? size : set;
                }
            }
        }
        return NONE;
    }

    /** All ways to give the parts, the nobodies as 9; the best so far stays in best. */
    private void giveParts(int[] way, int k, int[][] best) {
        if (k == way.length) {
            if (best[0] == null || isBetter(way, best[0])) {
                best[0] = way.clone();
            }
            return;
        }
        for (int p = 0; p <= 9; p++) {
            boolean fits = p == 9;
            if (!unknown(p) && now.ones.get(p).alive && now.ones.get(p).voice != null) {
                int apart = ranges.get(now.ones.get(p).voice) - parts.get(k);
                fits = apart >= -1 && apart <= 1;
                for (int i = 0; i < k; i++) {
                    fits &= way[i] != p;
                }
            }
            if (fits) {
                way[k] = p;
                giveParts(way, k + 1, best);
            }
        }
    }

    private static int given(int[] way) {
        int count = 0;
        for (int p : way) {
            count += p == 9 ? 0 : 1;
        }
        return count;
    }

    private static boolean isBetter(int[] way, int[] other) {
        if (given(way) != given(other)) {
            return given(way) > given(other);
        }
        for (int k = 0; k < way.length; k++) {
            if (way[k] != other[k]) {
                return way[k] < other[k];
            }
        }
        return false;
    }

    int sing(int k) {
        if (k != NONE && (k < 0 || k >= parts.size())) {
            return UNKNOWN;
        }
        int[][] best = new int[1][];
        giveParts(new int[parts.size()], 0, best);
        if (k == NONE) {
            return given(best[0]);
        }
        return best[0][k] == 9 ? NONE : best[0][k];
    }

    int bid(int p, int c) {
        if (unknown(p)) {
            return UNKNOWN;
        }
        if (c < 0 || c > 99) {
            return OUTSIDE;
        }
        One one = now.ones.get(p);
        if (!one.alive) {
            return NOT;
        }
        return one.voice == null ? 0 : (ranges.get(one.voice) + 1) * Integer.bitCount(open(one)) * c;
    }

    private boolean unknownBits(int set) {
        return set < 0 || set >= 1 << persons();
    }

    private boolean oneIsDead(int set) {
        return (set & told(5)) != set;
    }

    int live(int set, int n, int q) {
        if (unknownBits(set)) {
            return UNKNOWN;
        }
        if (n < 0 || n > 60 || q < 0 || q > 100) {
            return OUTSIDE;
        }
        if (oneIsDead(set)) {
            return NOT;
        }
        long odds = 1000000000;
        for (int year = 0; year < n; year++) {
            for (int p = 0; p < Integer.bitCount(set); p++) {
                odds = odds * (100 - q) / 100;
            }
        }
        return (int) odds;
    }

    // ---- what is seen and known

    private static int note(List<int[]> list, int most, int a, int b) {
        if (list.size() == most) {
            return FULL;
        }
        list.add(new int[] {a, b});
        return list.size();
    }

    int see(int d, boolean opened) {
        return door(d) == UNKNOWN ? UNKNOWN : note(seen, 6, d, opened ? 1 : 0);
    }

    int spoke(int what) {
        if (what < 0 || what > 1) {
            return OUTSIDE;
        }
        int voices = 0;
        for (int v = 0; v < persons(); v++) {
            boolean fits = ranges.get(v) != 9;
            for (int[] one : seen) {
                fits &= (doors.get(one[0]) >> v & 1) == one[1];
            }
            voices += fits ? 1 << v : 0;
        }
        int who = 0;
        for (int p = 0; p < persons(); p++) {
            Integer v = now.ones.get(p).voice;
            who += v != null && (voices >> v & 1) == 1 ? 1 << p : 0;
        }
        return what == 0 ? voices : who;
    }

    int knock() {
        int voices = spoke(0);
        int best = NONE;
        int least = 100;
        for (int d = 0; d < doors.size(); d++) {
            int opened = Integer.bitCount(voices & doors.get(d));
            int shut = Integer.bitCount(voices & ~doors.get(d));
            if (opened > 0 && shut > 0 && Math.max(opened, shut) < least) {
                least = Math.max(opened, shut);
                best = d;
            }
        }
        return best;
    }

    int has(int p, int v) {
        return unknown(p) || v < 0 || v > 9 || v == 7 || v == 8 ? UNKNOWN : note(known, 6, p, v);
    }

    private void allOrders(int left, List<Integer> order, List<List<Integer>> all) {
        if (left == 0) {
            State state = behind(now, order);
            boolean fits = true;
            for (int[] one : known) {
                fits &= state.ones.get(one[0]).used() == one[1];
            }
            if (fits) {
                all.add(new ArrayList<>(order));
            }
            return;
        }
        for (int p = 6; p >= 0; p--) {
            if ((left >> p & 1) == 1) {
                order.add(p);
                allOrders(left & ~(1 << p), order, all);
                order.remove(order.size() - 1);
            }
        }
    }

    int orders(int set, int i) {
        if (unknownBits(set)) {
            return UNKNOWN;
        }
        if (Integer.bitCount(set) > 4) {
            return OUTSIDE;
        }
        if (oneIsDead(set)) {
            return NOT;
        }
        List<List<Integer>> all = new ArrayList<>();
        allOrders(set, new ArrayList<>(), all);
        List<Integer> numbers = new ArrayList<>();
        TreeSet<Integer> firsts = new TreeSet<>();
        for (List<Integer> order : all) {
            int number = 0;
            for (int p : order) {
                number = number * 10 + p + 1;
            }
            numbers.add(number);
            firsts.add(order.isEmpty() ? NONE : order.get(0));
        }
        Collections.sort(numbers);
        if (i == -2) {
            return firsts.size() == 1 ? firsts.first() : NONE;
        }
        if (i == NONE) {
            return numbers.size();
        }
        return i >= 0 && i < numbers.size() ? numbers.get(i) : NONE;
    }

    int write(int p, int v) {
        return unknown(p) || v < 0 || v > 9 || v == 7 || v == 8 ? UNKNOWN : note(book, 15, p, v);
    }

    int tear() {
        int all = seen.size() + known.size() + book.size();
        seen.clear();
        known.clear();
        book.clear();
        return all;
    }

    int judge() {
        for (int i = 0; i < book.size(); i++) {
            if (now.ones.get(book.get(i)[0]).used() != book.get(i)[1]) {
                return i;
            }
        }
        return NONE;
    }

    // ---- draws, images

    int seed(int v) {
        if (v < 0) {
            return OUTSIDE;
        }
        int before = (int) seed;
        seed = v;
        return before;
    }

    int keep(int i) {
        if (i < 0 || i > 1) {
            return UNKNOWN;
        }
        images[i] = now.copy();
        imageSeeds[i] = seed;
        past.clear();
        return 1;
    }

    int goBack(int i) {
        if (i < 0 || i > 1) {
            return UNKNOWN;
        }
        if (images[i] == null) {
            return NOT;
        }
        now = images[i].copy();
        seed = imageSeeds[i];
        past.clear();
        return 1;
    }
}
