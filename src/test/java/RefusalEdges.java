import java.util.ArrayList;
import java.util.List;

/** The boundaries that the document's Terms name: what is refused, in which order, and that it changes nothing. */
public final class RefusalEdges {
    private static final int NONE = Edges.NONE, UNKNOWN = Edges.UNKNOWN, OUTSIDE = Edges.OUTSIDE, NOT = Edges.NOT, FULL = Edges.FULL;
    private static final Edges e = new Edges("RefusalEdges");
    private static final List<Refused> CALLS = new ArrayList<>();

    private record Refused(String name, int due, Edges.Call call) { }

    private static void refuse(int due, String name, Edges.Call call) {
        CALLS.add(new Refused(name, due, call));
    }

    /** Five persons, of whom 0 is dead and 2 is mute; two deeds to undo, image 1, seed 77; some seen, known, written. */
    private static VoiceWills lively() {
        VoiceWills x = e.parishOf(Edges.FIVE);
        x.sell(3, 4);
        x.sell(4, 3);
        x.seed(99);
        x.keep(1);
        x.die(0);
        x.will(4, 1, 3);
        x.see(0, true);
        x.has(1, 0);
        x.write(1, 0);
        x.write(0, 0);
        x.seed(77);
        x.feed('p');
        return x;
    }

    /** As lively, but no more letter can be fed, nothing seen, known or written. */
    private static VoiceWills full() {
        VoiceWills x = lively();
        for (int i = 0; i < 240; i++) {
            x.feed(' ');
        }
        for (int i = 0; i < 6; i++) {
            x.see(0, true);
            x.has(1, 0);
        }
        for (int i = 0; i < 15; i++) {
            x.write(1, 0);
        }
        return x;
    }

    private static void constants() {
        e.says("They are far below all that is counted: -1000000001 and on.");
        e.due("UNKNOWN", VoiceWills.UNKNOWN, -1000000001);
        e.due("OUTSIDE", VoiceWills.OUTSIDE, -1000000002);
        e.due("NOT", VoiceWills.NOT, -1000000003);
        e.due("FULL", VoiceWills.FULL, -1000000004);
        e.says("NONE is -1.");
        e.due("NONE", VoiceWills.NONE, -1);
    }

    private static void unknownCalls() {
        for (int p : new int[] {-1, 5, 9, Edges.LEAST, Edges.GREATEST}) {
            refuse(UNKNOWN, "person(" + p + ", 0)", x -> x.person(p, 0));
            refuse(UNKNOWN, "range(" + p + ")", x -> x.range(p));
            refuse(UNKNOWN, "door(" + p + ")", x -> x.door(p));
            refuse(UNKNOWN, "die(" + p + ")", x -> x.die(p));
            refuse(UNKNOWN, "sell(" + p + ", 1)", x -> x.sell(p, 1));
            refuse(UNKNOWN, "sell(1, " + p + ")", x -> x.sell(1, p));
            refuse(UNKNOWN, "putBy(" + p + ", 1)", x -> x.putBy(p, 1));
            refuse(UNKNOWN, "will(" + p + ", 9, 9)", x -> x.will(p, 9, 9));
            refuse(UNKNOWN, "after(2, " + p + ")", x -> x.after(2, p));
            refuse(UNKNOWN, "wills(2, " + p + ", 0, 0)", x -> x.wills(2, p, 0, 0));
            refuse(UNKNOWN, "wills(2, 1, " + p + ", 0)", x -> x.wills(2, 1, p, 0));
            refuse(UNKNOWN, "bid(" + p + ", 1)", x -> x.bid(p, 1));
            refuse(UNKNOWN, "see(" + p + ", true)", x -> x.see(p, true));
            refuse(UNKNOWN, "has(" + p + ", 0)", x -> x.has(p, 0));
            refuse(UNKNOWN, "write(" + p + ", 0)", x -> x.write(p, 0));
            refuse(UNKNOWN, "keep(" + p + ")", x -> x.keep(p));
            refuse(UNKNOWN, "goBack(" + p + ")", x -> x.goBack(p));
        }
        for (int p : new int[] {-1, 5, 8, 10}) {
            refuse(UNKNOWN, "will(1, " + p + ", 9)", x -> x.will(1, p, 9));
            refuse(UNKNOWN, "will(1, 9, " + p + ")", x -> x.will(1, 9, p));
        }
        for (int v : new int[] {-1, 7, 8, 10}) {
            refuse(UNKNOWN, "putBy(1, " + v + ")", x -> x.putBy(1, v));
            refuse(UNKNOWN, "whose(2, " + v + ")", x -> x.whose(2, v));
            refuse(UNKNOWN, "has(1, " + v + ")", x -> x.has(1, v));
            refuse(UNKNOWN, "write(1, " + v + ")", x -> x.write(1, v));
        }
        refuse(UNKNOWN, "putBy(1, 9)", x -> x.putBy(1, 9));
        refuse(UNKNOWN, "whose(2, 9)", x -> x.whose(2, 9));
        refuse(UNKNOWN, "door(4)", x -> x.door(4));
        refuse(UNKNOWN, "see(4, false)", x -> x.see(4, false));
        refuse(UNKNOWN, "sing(3)", x -> x.sing(3));
        refuse(UNKNOWN, "sing(-2)", x -> x.sing(-2));
        refuse(UNKNOWN, "keep(2)", x -> x.keep(2));
        refuse(UNKNOWN, "goBack(2)", x -> x.goBack(2));
        for (int set : new int[] {32, 34, 64, 128, -1, Edges.LEAST, Edges.GREATEST}) {
            refuse(UNKNOWN, "live(" + set + ", 1, 1)", x -> x.live(set, 1, 1));
            refuse(UNKNOWN, "orders(" + set + ", -1)", x -> x.orders(set, NONE));
        }
        for (int p = 1; p <= 2; p++) {
            int one = p;
            refuse(UNKNOWN, "sell to himself", x -> x.sell(one, one));
            refuse(UNKNOWN, "A like P", x -> x.will(one, one, 9));
            refuse(UNKNOWN, "B like P", x -> x.will(one, 9, one));
        }
    }

    private static void outsideCalls() {
        for (int n : new int[] {-1, 100, 256, Edges.LEAST, Edges.GREATEST}) {
            if (n != 100) {
                refuse(OUTSIDE, "feed(" + n + ")", x -> x.feed(n));
            }
            refuse(OUTSIDE, "told(" + n + ")", x -> x.told(n));
            refuse(OUTSIDE, "person(1, " + n + ")", x -> x.person(1, n));
            refuse(OUTSIDE, "drift(" + n + ")", x -> x.drift(n));
            refuse(OUTSIDE, "after(" + n + ", 1)", x -> x.after(n, 1));
            refuse(OUTSIDE, "whose(" + n + ", 1)", x -> x.whose(n, 1));
            refuse(OUTSIDE, "wills(" + n + ", 1, 0, 0)", x -> x.wills(n, 1, 0, 0));
            refuse(OUTSIDE, "wills(2, 1, 0, " + n + ")", x -> x.wills(2, 1, 0, n));
            refuse(OUTSIDE, "bid(1, " + n + ")", x -> x.bid(1, n));
            refuse(OUTSIDE, "live(2, " + n + ", 1)", x -> x.live(2, n, 1));
            if (n != 100) {
                refuse(OUTSIDE, "live(2, 1, " + n + ")", x -> x.live(2, 1, n));
            }
            refuse(OUTSIDE, "spoke(" + n + ")", x -> x.spoke(n));
        }
        refuse(OUTSIDE, "told(12)", x -> x.told(12));
        refuse(OUTSIDE, "person(1, 6)", x -> x.person(1, 6));
        refuse(OUTSIDE, "drift(0)", x -> x.drift(0));
        refuse(OUTSIDE, "drift(61)", x -> x.drift(61));
        refuse(OUTSIDE, "after(0, 1)", x -> x.after(0, 1));
        refuse(OUTSIDE, "after(1, 1), 0 is dead", x -> x.after(1, 1));
        refuse(OUTSIDE, "whose(22, 1)", x -> x.whose(22, 1));
        refuse(OUTSIDE, "wills(6, 1, 0, 0)", x -> x.wills(6, 1, 0, 0));
        refuse(OUTSIDE, "wills(2, 1, 0, 2)", x -> x.wills(2, 1, 0, 2));
        refuse(OUTSIDE, "live(2, 61, 1)", x -> x.live(2, 61, 1));
        refuse(OUTSIDE, "live(2, 1, 101)", x -> x.live(2, 1, 101));
        refuse(OUTSIDE, "spoke(2)", x -> x.spoke(2));
        refuse(OUTSIDE, "orders(31, -1)", x -> x.orders(31, NONE));
        refuse(OUTSIDE, "seed(-1)", x -> x.seed(-1));
        refuse(OUTSIDE, "seed of the least number", x -> x.seed(Edges.LEAST));
    }

    private static void notCalls() {
        refuse(NOT, "die(0), dead", x -> x.die(0));
        refuse(NOT, "sell(0, 1), dead", x -> x.sell(0, 1));
        refuse(NOT, "sell(1, 0), dead", x -> x.sell(1, 0));
        refuse(NOT, "sell(2, 1), mute", x -> x.sell(2, 1));
        refuse(NOT, "putBy(0, 0), dead", x -> x.putBy(0, 0));
        refuse(NOT, "putBy(1, 0), not in the jar", x -> x.putBy(1, 0));
        refuse(NOT, "putBy(1, 6), not in the jar", x -> x.putBy(1, 6));
        refuse(NOT, "will(0, 1, 9), dead", x -> x.will(0, 1, 9));
        refuse(NOT, "bid(0, 1), dead", x -> x.bid(0, 1));
        refuse(NOT, "live(1, 1, 1), dead", x -> x.live(1, 1, 1));
        refuse(NOT, "live(3, 1, 1), one is dead", x -> x.live(3, 1, 1));
        refuse(NOT, "orders(1, -1), dead", x -> x.orders(1, NONE));
        refuse(NOT, "orders(3, 0), one is dead", x -> x.orders(3, 0));
        refuse(NOT, "goBack(0), not kept", x -> x.goBack(0));
    }

    private static void nothingChanges() {
        e.says("What is refused changes nothing.");
        unknownCalls();
        outsideCalls();
        notCalls();
        for (Refused each : CALLS) {
            VoiceWills x = lively();
            e.due(each.name(), each.call().on(x), each.due());
            e.alikeToTheGround(each.name(), x, lively());
        }
        List<Refused> whenFull = new ArrayList<>();
        whenFull.add(new Refused("feed(32) when full", FULL, x -> x.feed(' ')));
        whenFull.add(new Refused("see(1, false) when full", FULL, x -> x.see(1, false)));
        whenFull.add(new Refused("has(1, 9) when full", FULL, x -> x.has(1, 9)));
        whenFull.add(new Refused("write(1, 9) when full", FULL, x -> x.write(1, 9)));
        for (Refused each : whenFull) {
            VoiceWills x = full();
            VoiceWills twin = full();
            e.due(each.name(), each.call().on(x), each.due());
            e.alike(each.name(), x, twin);
            e.due(each.name() + ": what all had", x.tear(), 27);
            e.due(each.name() + ": the text", x.parish(), twin.parish());
            e.due(each.name() + ": its fault", x.fault(), twin.fault());
        }
        VoiceWills nobody = new VoiceWills();
        e.due("drift(1) of nobody", nobody.drift(1), NOT);
        e.due("undo() of nobody", nobody.undo(), NOT);
        e.due("goBack(1) of nobody", nobody.goBack(1), NOT);
        e.alikeToTheGround("all that nobody is refused", nobody, new VoiceWills());
    }

    private static void inOrder() {
        e.says("REFUSALS, of several the first in this order: UNKNOWN");
        VoiceWills x = lively();
        e.due("unknown and outside: person", x.person(5, 6), UNKNOWN);
        e.due("unknown and outside: after", x.after(0, 5), UNKNOWN);
        e.due("unknown and outside: whose", x.whose(0, 7), UNKNOWN);
        e.due("unknown and outside: wills, the person", x.wills(0, 5, 0, 2), UNKNOWN);
        e.due("unknown and outside: wills, the voice", x.wills(0, 1, 7, 2), UNKNOWN);
        e.due("unknown and outside: bid", x.bid(5, 100), UNKNOWN);
        e.due("unknown and outside: live", x.live(32, 61, 101), UNKNOWN);
        e.due("unknown and outside: orders", x.orders(63, NONE), UNKNOWN);
        e.due("unknown and not: sell, the buyer", x.sell(0, 5), UNKNOWN);
        e.due("unknown and not: sell, the seller", x.sell(5, 0), UNKNOWN);
        e.due("unknown and not: sell to himself, dead", x.sell(0, 0), UNKNOWN);
        e.due("unknown and not: sell to himself, mute", x.sell(2, 2), UNKNOWN);
        e.due("unknown and not: putBy", x.putBy(0, 7), UNKNOWN);
        e.due("unknown and not: will, A", x.will(0, 5, 9), UNKNOWN);
        e.due("unknown and not: will, B like P", x.will(0, 9, 0), UNKNOWN);
        e.due("unknown and not: live", x.live(33, 1, 1), UNKNOWN);
        e.due("unknown and not: orders", x.orders(33, NONE), UNKNOWN);
        e.due("unknown, outside and not: live", x.live(33, 61, 1), UNKNOWN);
        e.due("unknown, outside and not: orders", x.orders(63, 0), UNKNOWN);
        VoiceWills all = full();
        e.due("unknown and full: see", all.see(4, true), UNKNOWN);
        e.due("unknown and full: has, the person", all.has(5, 0), UNKNOWN);
        e.due("unknown and full: has, the voice", all.has(1, 7), UNKNOWN);
        e.due("unknown and full: write, the person", all.write(5, 0), UNKNOWN);
        e.due("unknown and full: write, the voice", all.write(1, 8), UNKNOWN);

        e.says("OUTSIDE (another number out of its bounds), NOT (not now, as told), FULL");
        e.due("outside and not: bid", x.bid(0, 100), OUTSIDE);
        e.due("outside and not: live, n", x.live(1, 61, 1), OUTSIDE);
        e.due("outside and not: live, q", x.live(1, 1, 101), OUTSIDE);
        e.due("outside and not: orders", x.orders(31, NONE), OUTSIDE);
        e.due("outside and not: drift", new VoiceWills().drift(61), OUTSIDE);
        e.due("outside and full: feed", all.feed(256), OUTSIDE);
        e.due("full: feed", all.feed(255), FULL);
    }

    private static void unknown() {
        e.says("(a PERSON, VOICE, DOOR, PART, IMAGE that there is not; bits of such; one twice, where two are asked)");
        VoiceWills x = e.parishOf(Edges.MOST);
        e.due("the last person", x.person(6, 5), 1);
        e.due("none behind", x.person(7, 5), UNKNOWN);
        e.due("the last voice", x.range(6), 7);
        e.due("none behind", x.range(7), UNKNOWN);
        e.due("the last door", x.door(5), 72);
        e.due("none behind", x.door(6), UNKNOWN);
        e.due("the last part", x.sing(5), 6);
        e.due("none behind", x.sing(6), UNKNOWN);
        e.due("the last image", x.keep(1), 1);
        e.due("none behind", x.keep(2), UNKNOWN);
        e.due("all bits", x.live(127, 1, 0), 1000000000);
        e.due("a bit behind", x.live(128, 1, 0), UNKNOWN);
        e.due("bits behind", x.live(255, 1, 0), UNKNOWN);
        e.due("the highest bit", x.live(Edges.LEAST, 1, 0), UNKNOWN);
        e.due("four bits", x.orders(120, NONE), 24);
        e.due("a bit behind", x.orders(128, NONE), UNKNOWN);
        e.due("one twice", x.sell(6, 6), UNKNOWN);
        e.due("one twice", x.sell(0, 0), UNKNOWN);
    }

    private static void fromNullOn() {
        e.says("What has a number has it from 0 on, as it comes. A SET is a whole number, bit k for k.");
        VoiceWills x = e.parishOf("p3;p7;p9;d1;d2;c3,7;");
        e.due("person 0", x.range(0), 3);
        e.due("person 1", x.range(1), 7);
        e.due("door 0", x.door(0), 1);
        e.due("door 1", x.door(1), 2);
        e.due("part 0", x.sing(0), 0);
        e.due("part 1", x.sing(1), 1);
        e.due("bits of persons", x.told(5), 7);
        e.due("the bit of the third", x.told(6), 4);
        e.due("bits of doors", x.person(1, 4), 2);
        x.write(1, 0);
        e.due("entry 0", x.judge(), 0);
        e.due("order 0", x.orders(3, 0), 12);
        x.feed('x');
        x.parish();
        e.due("letter 0", x.fault(), 0);

        e.says("All numbers are whole; / cuts towards 0.");
        e.due("half of odd numbers", x.live(1, 10, 50), 976562);
        e.says("BILLION is 1000000000.");
        e.due("of a billion", x.live(0, 0, 0), 1000000000);
        e.due("of a billion", x.live(1, 1, 1), 990000000);
    }

    public static void main(String[] args) {
        constants();
        nothingChanges();
        inOrder();
        unknown();
        fromNullOn();
        e.end();
    }
}
