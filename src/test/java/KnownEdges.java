/** The boundaries of what is seen and known: the promises 21 to 28. */
public final class KnownEdges {
    private static final int NONE = Edges.NONE, UNKNOWN = Edges.UNKNOWN, OUTSIDE = Edges.OUTSIDE, NOT = Edges.NOT, FULL = Edges.FULL;
    private static final Edges e = new Edges("KnownEdges");
    private static final int[] NO_FIFTH = {-1, 5, 6, 7, 9, 32, 256, Edges.LEAST, Edges.GREATEST};
    private static final int[] NO_VOICE = {-1, 7, 8, 10, 16, 32, Edges.LEAST, Edges.GREATEST};

    // ---- promises 21 to 23

    private static void promise21() {
        e.says("SEEN (6 at most): one unknown opened a DOOR, or it stayed shut.");
        VoiceWills x = e.parishOf(Edges.FIVE);
        for (int i = 1; i <= 6; i++) {
            e.due("see " + i, x.see(i % 2 == 0 ? 0 : 1, i % 2 == 0), i);
        }
        e.due("the seventh", x.see(0, true), FULL);
        e.due("the seventh", x.see(3, false), FULL);
        e.due("six are kept", x.told(8), 6);
        e.due("and count", x.spoke(0), 2);

        e.says("SEEN: how much. UNKNOWN, FULL (6).");
        VoiceWills y = e.parishOf(Edges.FIVE);
        for (int d : new int[] {-1, 4, 5, 6, 9, Edges.LEAST, Edges.GREATEST}) {
            e.due("see(" + d + ", true)", y.see(d, true), UNKNOWN);
            e.due("see(" + d + ", false)", y.see(d, false), UNKNOWN);
            e.due("full: see(" + d + ", true)", x.see(d, true), UNKNOWN);
        }
        e.due("none of these is seen", y.told(8), 0);
        e.due("the first door", y.see(0, false), 1);
        e.due("the last door", y.see(3, true), 2);
        e.due("the sixth door", e.parishOf(Edges.MOST).see(5, true), 1);
        e.due("the seventh door", e.parishOf(Edges.MOST).see(6, true), UNKNOWN);
        e.due("no doors", e.parishOf("p1;").see(0, true), UNKNOWN);
    }

    private static void promise22() {
        e.says("SPOKE: VOICES (a SET) by which all that is SEEN is so; WHO: PERSONS (a SET) alive who use one of these.");
        VoiceWills x = e.parishOf(Edges.FIVE);
        e.due("nothing seen: all that there are", x.spoke(0), 27);
        e.due("nothing seen: all who use one", x.spoke(1), 27);
        x.see(3, true);
        e.due("a door that knows more than there are", x.spoke(0), 27);
        x.see(3, false);
        e.due("opened and shut: none", x.spoke(0), 0);
        e.due("nobody", x.spoke(1), 0);
        VoiceWills shut = e.parishOf(Edges.MOST);
        shut.see(3, false);
        e.due("a door that knows none stayed shut", shut.spoke(0), 119);
        shut.see(3, true);
        e.due("a door that knows none opened", shut.spoke(0), 0);
        VoiceWills six = e.parishOf("p1;p1;p1;p1;p1;p1;p1;d1;d2;d4;d8;d16;d32;");
        for (int d = 0; d < 6; d++) {
            six.see(d, false);
        }
        e.due("six shut: the seventh voice", six.spoke(0), 64);
        e.due("six shut: the seventh person", six.spoke(1), 64);
        six.sell(6, 0);
        e.due("who uses it now", six.spoke(1), 1);
        six.die(0);
        e.due("it went to the mute one", six.spoke(1), 64);
        six.die(6);
        e.due("lost, yet a voice", six.spoke(0), 64);
        e.due("nobody alive uses it", six.spoke(1), 0);
        VoiceWills jar = e.parishOf("p1;p2;w0 1 9;d2;");
        jar.die(0);
        jar.see(0, true);
        e.due("a voice that was put by", jar.spoke(0), 2);
        e.due("is used by nobody", jar.spoke(1), 0);

        e.says("what = 0 SPOKE, 1 WHO. OUTSIDE.");
        for (int what : new int[] {-1, 2, 3, Edges.LEAST, Edges.GREATEST}) {
            e.due("spoke(" + what + ")", x.spoke(what), OUTSIDE);
        }
    }

    private static void promise23() {
        e.says("KNOCK: the DOOR by which VOICES that SPOKE are told apart best: the greatest part that is alike is least; of like ones the least; NONE: none parts them.");
        e.due("no doors", e.parishOf("p1;p1;").knock(), NONE);
        e.due("no voices", e.parishOf("p9;p9;d1;d2;").knock(), NONE);
        e.due("one voice", e.parishOf("p1;p9;d1;d2;").knock(), NONE);
        e.due("doors that know all or none", e.parishOf("p1;p1;d3;d0;d124;d127;").knock(), NONE);
        e.due("a door that knows all but others, too", e.parishOf("p1;p1;d7;d5;").knock(), 1);
        e.due("the first door", e.parishOf("p1;p1;d1;d2;").knock(), 0);
        e.due("of like ones the least: known or not known", e.parishOf("p1;p1;p1;d6;d1;d2;").knock(), 0);
        e.due("the sixth door", e.parishOf("p1;p1;p1;p1;d1;d0;d15;d7;d8;d3;").knock(), 5);
        e.due("the greatest part is least", e.parishOf("p1;p1;p1;p1;p1;p1;p1;d63;d31;d15;d7;").knock(), 2);
        e.says("KNOCK; NONE.");
        e.due("a new object", new VoiceWills().knock(), NONE);
        VoiceWills x = e.parishOf("p1;p1;p1;p1;d12;d10;");
        e.due("two and two", x.knock(), 0);
        x.see(0, true);
        e.due("that one parts no more", x.knock(), 1);
        x.see(1, false);
        e.due("one is left", x.knock(), NONE);
        x.see(0, false);
        e.due("none is left", x.knock(), NONE);
        x.tear();
        e.due("as at first", x.knock(), 0);
        VoiceWills dead = e.parishOf("p1;p1;d1;");
        dead.die(0);
        e.due("voices that are lost are voices", dead.knock(), 0);
    }

    // ---- promises 24 and 25

    private static void promise24() {
        e.says("HAS (6 at most): it is known that a PERSON uses a VOICE then (9: none).");
        VoiceWills x = e.parishOf(Edges.FIVE);
        for (int i = 1; i <= 6; i++) {
            e.due("has " + i, x.has(2, 9), i);
        }
        e.due("the seventh", x.has(0, 0), FULL);
        e.due("the seventh, the same again", x.has(2, 9), FULL);
        e.due("six are kept", x.told(9), 6);
        e.due("the seventh does not count", x.orders(1, NONE), 1);

        e.says("HAS: how much is known. UNKNOWN (VOICES 0 .. 6, 9), FULL (6).");
        VoiceWills y = e.parishOf(Edges.FIVE);
        for (int p : NO_FIFTH) {
            e.due("has(" + p + ", 0)", y.has(p, 0), UNKNOWN);
            e.due("full: has(" + p + ", 0)", x.has(p, 0), UNKNOWN);
        }
        for (int v : NO_VOICE) {
            e.due("has(0, " + v + ")", y.has(0, v), UNKNOWN);
            e.due("full: has(0, " + v + ")", x.has(0, v), UNKNOWN);
        }
        e.due("none of these is known", y.told(9), 0);
        e.due("voice 0", y.has(0, 0), 1);
        e.due("voice 6, of no person", y.has(0, 6), 2);
        e.due("the mute one's", y.has(0, 2), 3);
        e.due("9", y.has(4, 9), 4);
        y.die(0);
        e.due("of a dead one", y.has(0, 0), 5);
    }

    private static void ordersThatFit() {
        e.says("ORDERS of deaths of a SET of PERSONS (4 at most, all alive), by which all known is so behind them: how many; the i-th (as numbers, rising; 0: none dies); FIRST: who dies first in all of these; NONE.");
        VoiceWills x = e.parishOf("p1;p2;p3;p9;p4;p5;p6;w0 3 9;w1 3 9;");
        int[] all = {1, 1, 2, 6, 24};
        int[] sets = {0, 64, 65, 69, 101};
        for (int size = 0; size <= 4; size++) {
            e.due("orders of " + size, x.orders(sets[size], NONE), all[size]);
            int before = NONE;
            for (int i = 0; i < all[size]; i++) {
                int order = x.orders(sets[size], i);
                e.due("order " + i + " of " + size + " is greater than the one ahead", order > before ? 1 : 0, 1);
                e.due("its figures", setOf(order), sets[size]);
                before = order;
            }
            e.due("no more of " + size, x.orders(sets[size], all[size]), NONE);
        }
        e.due("none dies", x.orders(0, 0), 0);
        e.due("none dies: who is first", x.orders(0, -2), NONE);
        e.due("one dies: who is first", x.orders(64, -2), 6);
        e.due("two die: either may be first", x.orders(65, -2), NONE);
        e.due("five", x.orders(31, NONE), OUTSIDE);
        // 3 gets both voices; the later one is used
        x.has(3, 1);
        e.due("0 died ahead of 1", x.orders(3, NONE), 1);
        e.due("that one", x.orders(3, 0), 12);
        e.due("no other", x.orders(3, 1), NONE);
        e.due("first", x.orders(3, -2), 0);
        e.due("with another: three", x.orders(19, NONE), 3);
        e.due("with another: the first order", x.orders(19, 0), 125);
        e.due("with another: the second", x.orders(19, 1), 152);
        e.due("with another: the third", x.orders(19, 2), 512);
        e.due("with another: the fourth", x.orders(19, 3), NONE);
        e.due("with another: nobody is first in all", x.orders(19, -2), NONE);
        e.due("none dies: not so", x.orders(0, NONE), 0);
        e.due("none dies: not so", x.orders(0, 0), NONE);
        x.has(0, 0);
        e.due("cannot be", x.orders(3, NONE), 0);
        e.due("cannot be: the first order", x.orders(3, 0), NONE);
        e.due("cannot be: who is first", x.orders(3, -2), NONE);
        e.due("two known that cannot be at once", x.orders(2, NONE), 1);
        x.tear();
        x.has(0, 9);
        e.due("a dead one uses none", x.orders(1, NONE), 1);
        e.due("he lives", x.orders(2, NONE), 0);
    }

    /** The persons of an order, as a set. */
    private static int setOf(int order) {
        int set = 0;
        for (int rest = order; rest > 0; rest /= 10) {
            set |= 1 << rest % 10 - 1;
        }
        return set;
    }

    private static void promise25() {
        e.says("ORDERS: i = NONE how many, -2 FIRST, else the i-th; NONE. UNKNOWN, OUTSIDE: more than 4; NOT: one is dead.");
        VoiceWills x = e.parishOf(Edges.FIVE);
        for (int i : new int[] {NONE, -2, 0, 24}) {
            for (int set : new int[] {32, 63, 64, 128, -1, -2, Edges.LEAST, Edges.GREATEST}) {
                e.due("orders(" + set + ", " + i + ")", x.orders(set, i), UNKNOWN);
            }
            e.due("orders(31, " + i + ")", x.orders(31, i), OUTSIDE);
        }
        e.due("the last of four", x.orders(30, 23), 5432);
        for (int i : new int[] {24, 25, -3, -4, Edges.LEAST, Edges.GREATEST}) {
            e.due("orders(30, " + i + ")", x.orders(30, i), NONE);
        }
        x.die(0);
        for (int i : new int[] {NONE, -2, 0, 24, -3}) {
            e.due("one is dead: orders(1, " + i + ")", x.orders(1, i), NOT);
            e.due("one is dead: orders(15, " + i + ")", x.orders(15, i), NOT);
            e.due("more than 4, one is dead: orders(31, " + i + ")", x.orders(31, i), OUTSIDE);
            e.due("one is dead, one is not: orders(33, " + i + ")", x.orders(33, i), UNKNOWN);
        }
        VoiceWills seven = e.parishOf("p1;p1;p1;p1;p1;p1;p1;");
        e.due("the last four", seven.orders(120, NONE), 24);
        e.due("the last of the last four", seven.orders(120, 23), 7654);
        e.due("all seven", seven.orders(127, NONE), OUTSIDE);
        e.due("an eighth", seven.orders(128, NONE), UNKNOWN);
        e.due("five and an eighth", seven.orders(31 | 128, NONE), UNKNOWN);
    }

    // ---- promises 26 to 28

    private static void promise26() {
        e.says("THE BOOK (15 at most) tells which VOICES PERSONS use (9: none): WRONG: the first that is otherwise now; NONE.");
        VoiceWills x = e.parishOf(Edges.FIVE);
        for (int i = 1; i <= 15; i++) {
            e.due("entry " + i, x.write(2, 9), i);
        }
        e.due("the sixteenth", x.write(0, 1), FULL);
        e.due("fifteen are kept", x.told(10), 15);
        e.due("the sixteenth does not count", x.judge(), NONE);
        x.sell(0, 2);
        e.due("all are wrong: the first", x.judge(), 0);
        x.tear();
        for (int i = 0; i < 14; i++) {
            x.write(2, 0);
        }
        x.write(2, 9);
        e.due("the fifteenth", x.judge(), 14);

        e.says("An entry behind THE BOOK: how many. UNKNOWN (VOICES 0 .. 6, 9), FULL (15).");
        VoiceWills y = e.parishOf(Edges.FIVE);
        for (int p : NO_FIFTH) {
            e.due("write(" + p + ", 0)", y.write(p, 0), UNKNOWN);
            e.due("full: write(" + p + ", 0)", x.write(p, 0), UNKNOWN);
        }
        for (int v : NO_VOICE) {
            e.due("write(0, " + v + ")", y.write(0, v), UNKNOWN);
            e.due("full: write(0, " + v + ")", x.write(0, v), UNKNOWN);
        }
        e.due("none of these stands there", y.told(10), 0);
        e.due("voice 0", y.write(0, 0), 1);
        e.due("the person 4, 9", y.write(4, 9), 2);
        e.due("voice 6, of no person", y.write(0, 6), 3);
        e.due("the mute one's", y.write(0, 2), 4);
        y.die(0);
        e.due("of a dead one", y.write(0, 0), 5);
    }

    private static void promise27() {
        e.says("Nothing SEEN, known, THE BOOK is empty: how much all had.");
        VoiceWills x = e.parishOf(Edges.FIVE);
        e.due("nothing", x.tear(), 0);
        for (int i = 0; i < 6; i++) {
            x.see(0, true);
            x.has(0, 1);
        }
        for (int i = 0; i < 15; i++) {
            x.write(0, 1);
        }
        e.due("all that can be", x.tear(), 27);
        e.due("nothing seen", x.told(8), 0);
        e.due("nothing known", x.told(9), 0);
        e.due("no book", x.told(10), 0);
        e.due("spoke", x.spoke(0), 27);
        e.due("orders", x.orders(0, NONE), 1);
        e.due("judge", x.judge(), NONE);
        e.due("nothing again", x.tear(), 0);
        e.due("room again", x.see(0, true), 1);
        e.due("room again", x.has(0, 0), 1);
        e.due("room again", x.write(0, 0), 1);
        VoiceWills one = e.parishOf(Edges.FIVE);
        one.see(0, true);
        e.due("seen alone", one.tear(), 1);
        one.has(0, 0);
        e.due("known alone", one.tear(), 1);
        one.write(0, 0);
        e.due("the book alone", one.tear(), 1);
    }

    private static void promise28() {
        e.says("WRONG; NONE.");
        VoiceWills x = e.parishOf(Edges.FIVE);
        e.due("an empty book", x.judge(), NONE);
        x.write(0, 0);
        x.write(2, 9);
        e.due("all is so", x.judge(), NONE);
        x.write(0, 9);
        e.due("he uses one", x.judge(), 2);
        x.write(1, 0);
        e.due("the first of two", x.judge(), 2);
        x.tear();
        x.write(2, 2);
        e.due("the mute uses none", x.judge(), 0);
        x.tear();
        x.write(0, 9);
        x.die(0);
        e.due("the dead use none", x.judge(), NONE);
        x.write(1, 0);
        e.due("the heir uses it now", x.judge(), NONE);
        x.write(1, 1);
        e.due("put by is not used", x.judge(), 2);
    }

    public static void main(String[] args) {
        promise21();
        promise22();
        promise23();
        promise24();
        ordersThatFit();
        promise25();
        promise26();
        promise27();
        promise28();
        e.end();
    }
}
