/** The boundaries of what is tried from now: the promises 15 to 20. */
public final class TriedEdges {
    private static final int NONE = Edges.NONE, UNKNOWN = Edges.UNKNOWN, OUTSIDE = Edges.OUTSIDE, NOT = Edges.NOT;
    private static final Edges e = new Edges("TriedEdges");
    private static final int[] NO_FIFTH = {-1, 5, 6, 7, 9, 32, 256, Edges.LEAST, Edges.GREATEST};
    /** Of five persons, all alive: a figure of nobody (0, 6 to 9), one twice, too many, below 0. */
    private static final int[] NO_ORDERS = {0, 6, 7, 8, 9, 10, 20, 100, 102, 120, 1023, 11, 121, 112, 211, 12341, 123455,
        12346, 61, 16, 19, 91, 99, 123451, 12345123, 1234512345, 1000000000, 1000000001, 2000000000, 2147483647, -1, -12, -10, Edges.LEAST};

    // ---- orders

    private static void orders() {
        e.says("AFTER deaths in an ORDER (PERSONS as figures from the first on, each 1 more than the PERSON, each once, all alive; 7 at most)");
        VoiceWills x = e.parishOf(Edges.FIVE);
        for (int order : NO_ORDERS) {
            e.due("after(" + order + ", 1)", x.after(order, 1), OUTSIDE);
            e.due("whose(" + order + ", 1)", x.whose(order, 1), OUTSIDE);
            e.due("wills(" + order + ", 1, 1, 0)", x.wills(order, 1, 1, 0), OUTSIDE);
        }
        e.due("from the first figure on: 0, then 1", x.after(12, 2), 0);
        e.due("from the first figure on: 1, then 0", x.after(21, 2), 1);
        e.due("one figure", x.after(1, 1), 0);
        e.due("the last person", x.after(5, 2), 4);
        e.due("all five", x.after(54321, 2), 9);
        x.die(4);
        e.due("one who is dead", x.after(5, 2), OUTSIDE);
        e.due("one who is dead behind others", x.after(125, 2), OUTSIDE);
        e.due("one who is dead ahead of others", x.after(51, 2), OUTSIDE);
        e.due("one who is dead", x.whose(5, 2), OUTSIDE);
        e.due("one who is dead", x.wills(5, 2, 1, 0), OUTSIDE);
        VoiceWills seven = e.parishOf("p1;p1;p1;p1;p1;p1;p9;");
        e.due("seven", seven.after(1234567, 6), 9);
        e.due("seven the other way", seven.after(7654321, 0), 9);
        e.due("six", seven.after(654321, 6), 5);
        e.due("eight", seven.after(12345671, 6), OUTSIDE);
        e.due("eight with an 8", seven.after(12345678, 6), OUTSIDE);
        e.due("seven with an 8", seven.after(1234568, 6), OUTSIDE);
        e.due("seven with a 0", seven.after(1234560, 6), OUTSIDE);
        for (int p = 0; p < 7; p++) {
            e.due("the person " + p + " alone", seven.after(p + 1, p), 9);
        }
    }

    private static void nothingChanges() {
        e.says("TRIED from now; nothing changes by it.");
        Edges.Call[] calls = {x -> x.after(23, 4), x -> x.whose(23, 1), x -> x.wills(23, 4, 1, 0), x -> x.wills(235, 3, 4, 1),
            x -> x.sing(NONE), x -> x.sing(0), x -> x.bid(1, 99), x -> x.live(6, 60, 1), x -> x.spoke(0), x -> x.knock(),
            x -> x.orders(6, NONE), x -> x.orders(30, 23), x -> x.orders(22, -2), x -> x.judge()};
        for (int i = 0; i < calls.length; i++) {
            VoiceWills x = lively();
            VoiceWills twin = lively();
            calls[i].on(x);
            e.alikeToTheGround("call " + i, x, twin);
        }
        // from now: what was done before counts
        VoiceWills now = e.parishOf("p1;p2;p3;p9;w0 1 9;");
        now.sell(0, 2);
        now.will(2, 1, 9);
        e.due("by the will as it is, the voice as it is", now.after(3, 1), 0);
        e.due("the jar went to the least who uses none", now.whose(3, 2), 0);
    }

    private static VoiceWills lively() {
        VoiceWills x = e.parishOf(Edges.FIVE);
        x.keep(1);
        x.die(0);
        x.will(4, 1, 2);
        x.see(3, true);
        x.has(1, 0);
        x.write(1, 1);
        x.seed(77);
        x.feed('p');
        return x;
    }

    // ---- promises 15 and 16

    private static void promise15() {
        e.says("which VOICE a PERSON uses then; who uses a VOICE then (NONE)");
        VoiceWills all = e.parishOf("p1;p9;p3;w0 1 9;");
        for (int p = 0; p < 3; p++) {
            int voice = all.after(1, p);
            e.due("voice of " + p, voice, p == 0 ? 9 : p == 1 ? 0 : 2);
            if (voice != 9) {
                e.due("who uses " + voice, all.whose(1, voice), p);
            }
        }
        e.due("behind all deaths nobody", all.whose(123, 0), NONE);
        e.says("AFTER: the VOICE that a PERSON uses (9: none, dead). UNKNOWN, OUTSIDE: no such ORDER.");
        VoiceWills x = e.parishOf(Edges.FIVE);
        for (int p : NO_FIFTH) {
            e.due("after(1, " + p + ")", x.after(1, p), UNKNOWN);
            e.due("after(0, " + p + ")", x.after(0, p), UNKNOWN);
            e.due("after(-1, " + p + ")", x.after(-1, p), UNKNOWN);
        }
        e.due("0 is no order", x.after(0, 0), OUTSIDE);
        e.due("he uses none", x.after(1, 2), 9);
        e.due("he died", x.after(1, 0), 9);
        e.due("he used none and died", x.after(3, 2), 9);
        x.die(4);
        e.due("he was dead", x.after(1, 4), 9);
        e.due("the last one left", x.after(1234, 3), 9);
    }

    private static void promise16() {
        e.says("AFTER: who uses a VOICE; NONE. UNKNOWN (0 .. 6), OUTSIDE: no such ORDER.");
        VoiceWills x = e.parishOf(Edges.FIVE);
        for (int v : new int[] {-1, 7, 8, 9, 10, 32, Edges.LEAST, Edges.GREATEST}) {
            e.due("whose(1, " + v + ")", x.whose(1, v), UNKNOWN);
            e.due("whose(0, " + v + ")", x.whose(0, v), UNKNOWN);
        }
        e.due("0 is no order", x.whose(0, 0), OUTSIDE);
        e.due("0 is no order, of a voice of nobody", x.whose(0, 6), OUTSIDE);
        e.due("used by the heir", x.whose(1, 0), 1);
        e.due("in a jar", x.whose(1, 1), NONE);
        e.due("of the mute one", x.whose(1, 2), NONE);
        e.due("of no person", x.whose(1, 5), NONE);
        e.due("of no person", x.whose(1, 6), NONE);
        e.due("lost", x.whose(35, 4), NONE);
        e.due("by the person 0", x.whose(2, 0), 0);
        VoiceWills most = e.parishOf(Edges.MOST);
        e.due("the seventh's", most.whose(1, 6), NONE);
        e.due("the seventh's own", most.whose(2, 6), 6);
        VoiceWills none = new VoiceWills();
        e.due("nobody, no voice", none.whose(1, 7), UNKNOWN);
        e.due("nobody, no order", none.whose(1, 6), OUTSIDE);
    }

    // ---- promise 17

    private static void fewestWills() {
        e.says("WILLS: the fewest PERSONS (2 at most) whose WILLS must be others (A anybody else or nobody, B nobody), so that behind deaths in an ORDER a PERSON uses a told VOICE: of like ones the least SET: how many; the SET; NONE.");
        String toThree = "p1;p2;p3;p4;w0 3 9;w1 3 9;w2 3 9;";
        VoiceWills x = e.parishOf(toThree);
        e.due("none: as it is", x.wills(123, 3, 2, 0), 0);
        e.due("none: the set", x.wills(123, 3, 2, 1), 0);
        e.due("one", x.wills(1, 3, 3, 0), 1);
        e.due("one: the set", x.wills(1, 3, 3, 1), 1);
        e.due("0 to 1, who leaves it on", x.wills(12, 3, 0, 1), 1);
        e.due("the later one's as it is", x.wills(12, 3, 1, 1), 0);
        e.due("the later one to nobody", x.wills(21, 3, 1, 1), 1);
        e.due("two", x.wills(12, 3, 3, 0), 2);
        e.due("two: the set", x.wills(12, 3, 3, 1), 3);
        e.due("one, of three who die", x.wills(123, 3, 0, 0), 1);
        e.due("one, of three who die: the set", x.wills(123, 3, 0, 1), 1);
        e.due("three are too many", x.wills(123, 3, 3, 0), NONE);
        e.due("three are too many: the set", x.wills(123, 3, 3, 1), NONE);
        e.due("one who lives keeps his", x.wills(1, 3, 1, 0), NONE);
        e.due("one who dies uses none", x.wills(1, 0, 0, 0), NONE);
        // nobody as A: it goes to the least mute one
        VoiceWills mute = e.parishOf("p1;p2;p9;w0 1 2;");
        e.due("to nobody", mute.wills(1, 2, 0, 0), 1);
        e.due("to nobody: the set", mute.wills(1, 2, 0, 1), 1);
        VoiceWills keeps = e.parishOf("p1;p2;w0 1 9;");
        e.due("to nobody, so that the other one keeps his own", keeps.wills(1, 1, 1, 0), 1);
        e.due("to nobody, so that the other one keeps his own: the set", keeps.wills(1, 1, 1, 1), 1);
        // anybody else: the person 0, too
        e.due("to 0", e.parishOf("p1;p2;").wills(2, 0, 1, 1), 2);
        VoiceWills up = e.parishOf("p1;p2;p3;p4;w1 2 9;w2 3 9;");
        e.due("the greater one to 0, the lesser one elsewhere", up.wills(23, 0, 2, 0), 2);
        e.due("the greater one to 0: the set", up.wills(23, 0, 2, 1), 6);
        VoiceWills down = e.parishOf("p1;p2;p3;p4;w2 1 9;w1 3 9;");
        e.due("the lesser one to 0, the greater one elsewhere", down.wills(32, 0, 1, 0), 2);
        e.due("the lesser one to 0: the set", down.wills(32, 0, 1, 1), 6);
        // of like ones the least set, which is not the one with the least person
        VoiceWills least = e.parishOf("p9;p1;p1;p1;p9;w0 4 9;w1 3 9;w2 1 9;w4 2 9;");
        e.due("two", least.wills(2341, 4, 3, 0), 2);
        e.due("1 and 2, ahead of 0 and 3", least.wills(2341, 4, 3, 1), 6);
        // of like single ones the least
        VoiceWills single = e.parishOf("p1;p2;p3;p4;w0 1 9;w1 2 9;");
        e.due("one of like ones", single.wills(123, 3, 0, 0), 1);
        e.due("the least of like ones", single.wills(123, 3, 0, 1), 1);
        // seven deaths
        VoiceWills seven = e.parishOf("p1;p1;p1;p1;p1;p1;p1;");
        e.due("all die", seven.wills(1234567, 6, 0, 0), NONE);
        e.due("six die", seven.wills(123456, 6, 5, 1), 32);
        e.due("six die, as it is", seven.wills(123456, 6, 6, 0), 0);
        // one who died before has no will to be changed
        VoiceWills dead = e.parishOf("p1;p2;p3;w0 1 9;");
        dead.die(0);
        e.due("a dead one's voice is with his heir", dead.wills(2, 2, 0, 1), 2);
        dead.die(1);
        e.due("lost", dead.wills(3, 2, 0, 0), NONE);
    }

    private static void promise17() {
        e.says("WILLS: what = 0 how many, 1 the SET; NONE. UNKNOWN, OUTSIDE: no such ORDER, too.");
        VoiceWills x = e.parishOf(Edges.FIVE);
        for (int p : NO_FIFTH) {
            e.due("wills(1, " + p + ", 0, 0)", x.wills(1, p, 0, 0), UNKNOWN);
            e.due("wills(0, " + p + ", 0, 2)", x.wills(0, p, 0, 2), UNKNOWN);
            e.due("wills(1, 1, " + p + ", 0)", x.wills(1, 1, p, 0), UNKNOWN);
            e.due("wills(0, 1, " + p + ", 2)", x.wills(0, 1, p, 2), UNKNOWN);
        }
        for (int what : new int[] {-1, 2, 3, Edges.LEAST, Edges.GREATEST}) {
            e.due("wills(1, 1, 0, " + what + ")", x.wills(1, 1, 0, what), OUTSIDE);
            e.due("wills(0, 1, 0, " + what + ")", x.wills(0, 1, 0, what), OUTSIDE);
        }
        e.due("0 is no order", x.wills(0, 1, 1, 0), OUTSIDE);
        e.due("0 is no order: the set", x.wills(0, 1, 1, 1), OUTSIDE);
        e.due("a voice that there is not, of the mute one", x.wills(1, 1, 2, 0), UNKNOWN);
        x.die(0);
        e.due("a dead one may be asked for", x.wills(2, 0, 0, 0), NONE);
        e.due("one who is dead in the order", x.wills(1, 1, 0, 0), OUTSIDE);
    }

    // ---- promise 18

    private static void sing() {
        e.says("SING: PARTS given to unlike PERSONS alive whose VOICE is of that RANGE or one beside: most PARTS; of like ones the first (PART by PART the lesser PERSON, nobody last)");
        for (int r = 0; r <= 8; r++) {
            for (int part = 0; part <= 8; part++) {
                VoiceWills x = e.parishOf("p" + r + ";c" + part + ";");
                boolean near = r - part <= 1 && part - r <= 1;
                e.due("range " + r + " for " + part, x.sing(NONE), near ? 1 : 0);
                e.due("who: range " + r + " for " + part, x.sing(0), near ? 0 : NONE);
            }
        }
        VoiceWills mute = e.parishOf("p9;c8;");
        e.due("a mute one is not beside 8", mute.sing(NONE), 0);
        e.due("a mute one is not beside 8", mute.sing(0), NONE);
        VoiceWills once = e.parishOf("p4;c4,4;");
        e.due("unlike persons", once.sing(NONE), 1);
        e.due("nobody last: the first part has him", once.sing(0), 0);
        e.due("nobody", once.sing(1), NONE);
        VoiceWills dead = e.parishOf("p4;p4;c4,4;");
        dead.die(0);
        e.due("alive", dead.sing(NONE), 1);
        e.due("alive", dead.sing(0), 1);
        VoiceWills used = e.parishOf("p1;p8;c8;");
        used.sell(0, 1);
        e.due("by the voice used, not the one put by", used.sing(0), NONE);
        VoiceWills most = e.parishOf("p4;p5;c4,3;");
        e.due("most parts, ahead of the lesser person", most.sing(NONE), 2);
        e.due("the greater person first", most.sing(0), 1);
        e.due("the lesser person then", most.sing(1), 0);
        VoiceWills between = e.parishOf("p4;p1;c4,8,4,1;");
        e.due("two", between.sing(NONE), 2);
        int[] who = {0, NONE, NONE, 1};
        for (int k = 0; k < who.length; k++) {
            e.due("part " + k, between.sing(k), who[k]);
        }
        VoiceWills late = e.parishOf("p1;p5;c8,1,4;");
        e.due("nobody for the first part, two for the others", late.sing(NONE), 2);
        e.due("nobody for the first part", late.sing(0), NONE);
        e.due("the second part", late.sing(1), 0);
        e.due("the third part", late.sing(2), 1);
        VoiceWills six = e.parishOf("p1;p1;p1;p1;p1;p1;p1;c1,1,1,1,1,1;");
        e.due("six", six.sing(NONE), 6);
        for (int k = 0; k < 6; k++) {
            e.due("six, part " + k, six.sing(k), k);
        }
        VoiceWills last = e.parishOf("p8;p8;p8;p8;p8;p8;p0;c1,0,1,0,1,0;");
        e.due("the seventh person, one part", last.sing(NONE), 1);
        e.due("the seventh person, the first part", last.sing(0), 6);
        e.due("no parts", e.parishOf("p1;").sing(NONE), 0);
    }

    private static void promise18() {
        e.says("SING: k = NONE how many, else a PERSON; NONE. UNKNOWN.");
        VoiceWills x = e.parishOf(Edges.FIVE);
        e.due("how many", x.sing(NONE), 3);
        e.due("the first part", x.sing(0), 0);
        e.due("the last part", x.sing(2), 4);
        for (int k : new int[] {-2, 3, 4, 6, 9, Edges.LEAST, Edges.GREATEST}) {
            e.due("sing(" + k + ")", x.sing(k), UNKNOWN);
        }
        VoiceWills none = e.parishOf("p1;");
        e.due("no parts", none.sing(0), UNKNOWN);
        VoiceWills most = e.parishOf(Edges.MOST);
        e.due("the sixth part", most.sing(5), 6);
        e.due("a seventh part", most.sing(6), UNKNOWN);
    }

    // ---- promises 19 and 20

    private static void promise19() {
        e.says("BID of criers for the VOICE that a PERSON uses: its RANGE and 1, times how many DOORS are OPEN to him, times c (0 .. 99); 0 without one.");
        VoiceWills x = e.parishOf("p0;p8;p9;p8;d1;d3;d3;d3;d3;d2;");
        e.due("range 0", x.bid(0, 1), 5);
        e.due("range 8", x.bid(1, 1), 45);
        e.due("c 0", x.bid(1, 0), 0);
        e.due("c 99", x.bid(1, 99), 4455);
        e.due("without a voice", x.bid(2, 99), 0);
        e.due("no door is open", x.bid(3, 99), 0);
        VoiceWills most = e.parishOf("p8;d1;d1;d1;d1;d1;d1;");
        e.due("the most that a crier pays", most.bid(0, 99), 9 * 6 * 99);
        e.due("no doors", e.parishOf("p8;").bid(0, 99), 0);
        x.sell(1, 0);
        e.due("by the voice used", x.bid(0, 1), 45);
        e.due("he sold it", x.bid(1, 99), 0);

        e.says("BID. UNKNOWN, OUTSIDE, NOT: he is dead.");
        for (int p : new int[] {-1, 4, 7, 9, Edges.LEAST, Edges.GREATEST}) {
            e.due("bid(" + p + ", 1)", x.bid(p, 1), UNKNOWN);
            e.due("bid(" + p + ", 100)", x.bid(p, 100), UNKNOWN);
        }
        for (int c : new int[] {-1, 100, 101, Edges.LEAST, Edges.GREATEST}) {
            e.due("bid(0, " + c + ")", x.bid(0, c), OUTSIDE);
            e.due("bid(2, " + c + "), who has none", x.bid(2, c), OUTSIDE);
        }
        x.die(3);
        e.due("he is dead", x.bid(3, 1), NOT);
        e.due("he is dead, c 0", x.bid(3, 0), NOT);
        e.due("he is dead, c 100", x.bid(3, 100), OUTSIDE);
        x.die(2);
        e.due("a mute one who is dead", x.bid(2, 1), NOT);
    }

    private static void promise20() {
        e.says("LIVE: odds that all of a SET of PERSONS live through n years (0 .. 60), each year each dies by q of a hundred: a BILLION times (100 less q) / 100 for each and year (cut).");
        VoiceWills x = e.parishOf("p1;p1;p1;p1;p1;p1;p1;");
        e.due("nobody", x.live(0, 60, 100), 1000000000);
        e.due("no years", x.live(127, 0, 100), 1000000000);
        e.due("q 0", x.live(127, 60, 0), 1000000000);
        e.due("q 100", x.live(1, 1, 100), 0);
        e.due("q 1, all, sixty years", x.live(127, 60, 1), 14681835);
        e.due("q 99, all, sixty years", x.live(127, 60, 99), 0);
        e.due("q 99, four years", x.live(64, 4, 99), 10);
        e.due("q 99, five years: cut to nothing", x.live(64, 5, 99), 0);
        e.due("cut each time", x.live(1, 60, 3), 160806655);
        e.due("cut each time", x.live(7, 3, 33), 27206533);
        e.due("each of three in one year", x.live(7, 1, 33), 300763000);
        e.due("one in three years", x.live(16, 3, 33), 300763000);

        e.says("LIVE. UNKNOWN, OUTSIDE, NOT: one is dead.");
        for (int set : new int[] {128, 129, 255, -1, -128, 1 << 30, Edges.LEAST, Edges.GREATEST}) {
            e.due("live(" + set + ", 1, 1)", x.live(set, 1, 1), UNKNOWN);
            e.due("live(" + set + ", 61, 101)", x.live(set, 61, 101), UNKNOWN);
        }
        for (int n : new int[] {-1, 61, Edges.LEAST, Edges.GREATEST}) {
            e.due("live(1, " + n + ", 1)", x.live(1, n, 1), OUTSIDE);
            e.due("live(0, " + n + ", 1)", x.live(0, n, 1), OUTSIDE);
        }
        for (int q : new int[] {-1, 101, Edges.LEAST, Edges.GREATEST}) {
            e.due("live(1, 1, " + q + ")", x.live(1, 1, q), OUTSIDE);
            e.due("live(0, 0, " + q + ")", x.live(0, 0, q), OUTSIDE);
        }
        x.die(6);
        e.due("one is dead", x.live(64, 1, 1), NOT);
        e.due("one of all is dead", x.live(127, 0, 0), NOT);
        e.due("one is dead, n 61", x.live(64, 61, 1), OUTSIDE);
        e.due("one is dead, q 101", x.live(64, 1, 101), OUTSIDE);
        e.due("one is dead, one is not", x.live(64 | 128, 1, 1), UNKNOWN);
        e.due("the others", x.live(63, 1, 0), 1000000000);
        VoiceWills five = e.parishOf(Edges.FIVE);
        e.due("the bit of a sixth", five.live(32, 1, 1), UNKNOWN);
        e.due("the bit of the fifth", five.live(16, 1, 1), 990000000);
        e.due("a mute one lives, too", five.live(4, 1, 1), 990000000);
    }

    public static void main(String[] args) {
        orders();
        nothingChanges();
        promise15();
        promise16();
        fewestWills();
        promise17();
        sing();
        promise18();
        promise19();
        promise20();
        e.end();
    }
}
