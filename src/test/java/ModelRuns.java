import java.util.ArrayList;
import java.util.List;
import java.util.Random;

/** Random runs of calls, each answer beside the model's. The random source has a fixed seed, so runs repeat. */
public final class ModelRuns {
    private static final int TEXTS = 60000;
    private static final int RUNS = 1500;
    private static final int CALLS = 512;
    private static final int[] WILD = {-1, -2, -3, 7, 8, 9, 10, 60, 61, 99, 100, 101, 127, 128, 255, 256,
        Integer.MAX_VALUE, Integer.MIN_VALUE, 1000000000, -1000000001};

    private final Random random;
    private final VoiceWills own = new VoiceWills();
    private final Model model = new Model();
    private final List<String> calls = new ArrayList<>();
    private int answered;
    private int refused;

    private ModelRuns(long seed) {
        random = new Random(seed);
    }

    private boolean same(String call, int got, int want) {
        calls.add(call + " = " + got);
        answered++;
        refused += got <= VoiceWills.UNKNOWN ? 1 : 0;
        if (got != want) {
            System.out.println("due is " + want + " at the last of:");
            for (String each : calls) {
                System.out.println("  " + each);
            }
            return false;
        }
        return true;
    }

    private int upTo(int n) {
        return random.nextInt(n);
    }

    /** Mostly a number below n, now and then one of the wild. */
    private int number(int n) {
        return upTo(12) == 0 ? WILD[upTo(WILD.length)] : upTo(n);
    }

    private int heir() {
        return upTo(4) == 0 ? 9 : number(7);
    }

    private int voice() {
        return upTo(6) == 0 ? 9 : number(7);
    }

    private int order() {
        if (upTo(12) == 0) {
            return WILD[upTo(WILD.length)];
        }
        int order = 0;
        for (int i = upTo(8); i > 0; i--) {
            int figure = upTo(25) == 0 ? upTo(10) : 1 + upTo(7);
            if (Integer.toString(order).indexOf('0' + figure) < 0 || upTo(25) == 0) {
                order = 10 * order + figure;
            }
        }
        return order;
    }

    /** Persons, most of them alive. */
    private int set(int most) {
        if (upTo(12) == 0) {
            return WILD[upTo(WILD.length)];
        }
        int set = upTo(128) & (upTo(8) == 0 ? 127 : model.told(5));
        while (Integer.bitCount(set) > most) {
            set &= set - 1;
        }
        return set;
    }

    private String text() {
        StringBuilder text = new StringBuilder();
        int persons = upTo(10) == 0 ? upTo(8) : 4 + upTo(4);
        for (int p = 0; p < persons; p++) {
            text.append('p').append(upTo(3) == 0 ? 9 : upTo(9)).append(';');
        }
        for (int p = 0; p < persons; p++) {
            if (upTo(3) > 0) {
                text.append('w').append(p).append(' ').append(otherThan(p, persons)).append(' ')
                    .append(otherThan(p, persons)).append(';');
            }
        }
        for (int d = upTo(7); d > 0; d--) {
            text.append('d').append(upTo(128)).append(';');
        }
        if (upTo(5) > 0) {
            text.append('c').append(upTo(9));
            for (int k = upTo(6); k > 0; k--) {
                text.append(',').append(upTo(9));
            }
            text.append(';');
        }
        return text.toString();
    }

    private int otherThan(int p, int persons) {
        int other = upTo(persons);
        return other == p ? 9 : other;
    }

    private String spoiled(String text) {
        StringBuilder spoiled = new StringBuilder(text);
        String letters = "pwdc0123456789,;  x";
        for (int i = 1 + upTo(4); i > 0; i--) {
            int at = upTo(spoiled.length() + 1);
            char letter = letters.charAt(upTo(letters.length()));
            int way = upTo(3);
            if (way == 0 || at == spoiled.length()) {
                spoiled.insert(at, upTo(30) == 0 ? (char) upTo(256) : letter);
            } else if (way == 1) {
                spoiled.deleteCharAt(at);
            } else {
                spoiled.setCharAt(at, letter);
            }
        }
        return spoiled.toString();
    }

    private boolean tell(String text) {
        boolean fine = true;
        for (int i = 0; i < text.length() && fine; i++) {
            int letter = text.charAt(i);
            fine = same("feed(" + letter + ")", own.feed(letter), model.feed(letter));
        }
        return fine && same("parish()", own.parish(), model.parish()) && same("fault()", own.fault(), model.fault());
    }

    private boolean done() {
        int a = number(7);
        int b = upTo(3) == 0 ? heir() : number(7);
        int c = heir();
        switch (upTo(7)) {
            case 0: return same("die(" + a + ")", own.die(a), model.die(a));
            case 1:
            case 2: return same("sell(" + a + ", " + b + ")", own.sell(a, b), model.sell(a, b));
            case 3: return same("putBy(" + a + ", " + b + ")", own.putBy(a, b), model.putBy(a, b));
            case 4: return same("will(" + a + ", " + b + ", " + c + ")", own.will(a, b, c), model.will(a, b, c));
            case 5:
                int n = number(upTo(3) == 0 ? 64 : 3);
                return same("drift(" + n + ")", own.drift(n), model.drift(n));
            default: return same("undo()", own.undo(), model.undo());
        }
    }

    private boolean tried() {
        int order = order();
        int a = number(7);
        int b = number(7);
        int what = number(2);
        switch (upTo(6)) {
            case 0: return same("after(" + order + ", " + a + ")", own.after(order, a), model.after(order, a));
            case 1: return same("whose(" + order + ", " + a + ")", own.whose(order, a), model.whose(order, a));
            case 2: return same("wills(" + order + ", " + a + ", " + b + ", " + what + ")",
                own.wills(order, a, b, what), model.wills(order, a, b, what));
            case 3:
                int k = upTo(3) == 0 ? -1 : number(6);
                return same("sing(" + k + ")", own.sing(k), model.sing(k));
            case 4:
                int c = number(100);
                return same("bid(" + a + ", " + c + ")", own.bid(a, c), model.bid(a, c));
            default:
                int set = set(7);
                int n = number(61);
                int q = number(101);
                return same("live(" + set + ", " + n + ", " + q + ")", own.live(set, n, q), model.live(set, n, q));
        }
    }

    private boolean noted() {
        int a = number(7);
        int v = voice();
        switch (upTo(9)) {
            case 0: return same("see(" + a + ", true)", own.see(a, true), model.see(a, true));
            case 1: return same("see(" + a + ", false)", own.see(a, false), model.see(a, false));
            case 2:
                int what = number(2);
                return same("spoke(" + what + ")", own.spoke(what), model.spoke(what));
            case 3: return same("knock()", own.knock(), model.knock());
            case 4:
                int then = upTo(2) == 0 ? v : likely(a);
                return same("has(" + a + ", " + then + ")", own.has(a, then), model.has(a, then));
            case 5:
            case 6:
                int set = set(upTo(6) == 0 ? 7 : 4);
                int i = upTo(3) == 0 ? -1 - upTo(3) : number(upTo(2) == 0 ? 3 : 25);
                return same("orders(" + set + ", " + i + ")", own.orders(set, i), model.orders(set, i));
            case 7:
                int now = upTo(5) == 0 ? v : likely(a);
                return same("write(" + a + ", " + now + ")", own.write(a, now), model.write(a, now));
            default: return same("judge()", own.judge(), model.judge());
        }
    }

    /** What one uses now, or would use behind some deaths. */
    private int likely(int p) {
        int v = upTo(2) == 0 ? model.person(p, 0) : model.after(order(), p);
        return v < 0 ? upTo(7) : v;
    }

    private boolean rare() {
        int i = number(2);
        switch (upTo(6)) {
            case 0: return same("tear()", own.tear(), model.tear());
            case 1:
                int v = upTo(4) == 0 ? WILD[upTo(WILD.length)] : random.nextInt() & Integer.MAX_VALUE;
                return same("seed(" + v + ")", own.seed(v), model.seed(v));
            case 2: return same("keep(" + i + ")", own.keep(i), model.keep(i));
            case 3: return same("goBack(" + i + ")", own.goBack(i), model.goBack(i));
            case 4:
                int letter = number(256);
                return same("feed(" + letter + ")", own.feed(letter), model.feed(letter));
            default: return upTo(10) > 0
                || same("parish()", own.parish(), model.parish()) && same("fault()", own.fault(), model.fault());
        }
    }

    /**
     * All that can be looked at, so that a wrong state shows at the call that made it. These looks are not counted
     * among the 512 calls for which an object answers: the class counts no calls, and they change nothing.
     */
    private boolean looksAlike() {
        for (int what = -1; what <= 12; what++) {
            if (own.told(what) != model.told(what)) {
                return same("told(" + what + ")", own.told(what), model.told(what));
            }
        }
        for (int p = -1; p <= 7; p++) {
            for (int what = -1; what <= 6; what++) {
                if (own.person(p, what) != model.person(p, what)) {
                    return same("person(" + p + ", " + what + ")", own.person(p, what), model.person(p, what));
                }
            }
            if (own.range(p) != model.range(p)) {
                return same("range(" + p + ")", own.range(p), model.range(p));
            }
            if (own.door(p) != model.door(p)) {
                return same("door(" + p + ")", own.door(p), model.door(p));
            }
        }
        return true;
    }

    private boolean run() {
        boolean fine = tell(text());
        while (fine && answered < CALLS) {
            int kind = upTo(20);
            if (kind < 5) {
                fine = done();
            } else if (kind < 12) {
                fine = tried();
            } else if (kind < 18) {
                fine = noted();
            } else {
                fine = rare();
            }
            fine = fine && looksAlike();
            if (fine && model.told(5) == 0 && upTo(4) == 0) {
                fine = tell(upTo(8) == 0 ? spoiled(text()) : text());
            }
        }
        return fine;
    }

    public static void main(String[] args) {
        for (int i = 0; i < TEXTS; i++) {
            ModelRuns texts = new ModelRuns(1000000L + i);
            String text = texts.spoiled(texts.text());
            if (!texts.tell(text) || !texts.looksAlike()) {
                System.out.println("ModelRuns: text " + i + " is not as due: " + text);
                System.exit(1);
            }
        }
        long answered = 0;
        long refused = 0;
        for (int i = 0; i < RUNS; i++) {
            ModelRuns runs = new ModelRuns(i);
            if (!runs.run()) {
                System.out.println("ModelRuns: run " + i + " is not as due");
                System.exit(1);
            }
            answered += runs.answered;
            refused += runs.refused;
        }
        System.out.println("ModelRuns: " + TEXTS + " texts, " + answered + " calls (" + refused + " refused), all as due");
    }
}
