/** The boundaries of what is drawn, undone and kept: the promises 13, 14, 29, 30 and 31. */
public final class UndoneEdges {
    private static final int NONE = Edges.NONE, UNKNOWN = Edges.UNKNOWN, OUTSIDE = Edges.OUTSIDE, NOT = Edges.NOT;
    private static final Edges e = new Edges("UndoneEdges");

    // ---- draws

    /** The seed behind one draw. */
    private static long next(long seed) {
        return (seed * 1103515245L + 12345L) % 2147483648L;
    }

    private static int draw(long seed, int n) {
        return (int) (seed / 65536 % n);
    }

    /** The least seed by which a year meets person p, of so many, with this lot. */
    private static int seedFor(int persons, int p, int lot) {
        int seed = 0;
        while (draw(next(seed), persons) != p || draw(next(next(seed)), 3) != lot) {
            seed++;
        }
        return seed;
    }

    private static void theSeed() {
        e.says("THE SEED (0 at first: each DRAW it becomes it times 1103515245 and 12345, left over by 2 to the 31; the DRAW of n is it / 65536, left over by n)");
        VoiceWills x = e.parishOf("p1;");
        e.due("at first", x.seed(0), 0);
        x.drift(1);
        e.due("two draws from 0", x.seed(2147483647), 1406932606);
        x.drift(1);
        e.due("two draws from the greatest, which wrap around", x.seed(0), 288979989);
        x.drift(60);
        long seed = 0;
        for (int i = 0; i < 120; i++) {
            seed = next(seed);
        }
        e.due("a hundred and twenty draws", x.seed(1), (int) seed);
        // whom a year meets, and with which lot, is by the high figures of the seed
        for (int persons = 2; persons <= 7; persons++) {
            for (int p = 0; p < persons; p++) {
                VoiceWills y = e.parishOf(Edges.times("p1;", persons));
                y.seed(seedFor(persons, p, 0));
                e.due(p + " of " + persons + " dies", y.drift(1), (1 << persons) - 1 & ~(1 << p));
            }
        }
    }

    private static void years() {
        e.says("n years, if there are PERSONS: in each a DRAW of PERSONS, of 3: on 0 he DIES, if he is alive");
        VoiceWills x = e.parishOf("p1;p2;p9;w1 0 9;");
        x.seed(seedFor(3, 1, 0));
        e.due("he dies", x.drift(1), 5);
        e.due("his will holds", x.person(0, 0), 1);
        e.due("counted", x.told(4), 1);
        x.seed(seedFor(3, 1, 0));
        e.due("he is dead: nothing", x.drift(1), 5);
        e.due("not counted again", x.told(4), 1);
        e.due("both draws are made all the same", x.seed(0), (int) next(next(seedFor(3, 1, 0))));
        VoiceWills last = e.parishOf("p9;");
        last.seed(seedFor(1, 0, 0));
        e.due("the only one, who is mute", last.drift(1), 0);
        last.seed(9);
        e.due("all are dead, but there are persons", last.drift(2), 0);
        e.due("four draws", last.seed(0), (int) next(next(next(next(9)))));
    }

    private static void salesByDraws() {
        e.says("on 1 he SELLS to the next one (the last to the first), if both are alive, unlike, and he uses a VOICE");
        VoiceWills next = e.parishOf("p1;p2;p3;");
        next.seed(seedFor(3, 1, 1));
        e.due("all live", next.drift(1), 7);
        e.due("1 sold to 2", next.person(2, 0), 1);
        e.due("put by", next.person(2, 1), 4);
        e.due("1 uses none", next.told(6), 2);
        next.seed(seedFor(3, 1, 1));
        next.drift(1);
        e.due("he uses none: nothing is sold", next.person(2, 0), 1);
        VoiceWills last = e.parishOf("p1;p1;p1;p1;p1;p1;p1;");
        last.seed(seedFor(7, 6, 1));
        e.due("all live", last.drift(1), 127);
        e.due("the last sold to the first", last.person(0, 0), 6);
        e.due("put by", last.person(0, 1), 1);
        VoiceWills dead = e.parishOf("p1;p2;p3;");
        dead.die(2);
        dead.seed(seedFor(3, 1, 1));
        dead.drift(1);
        e.due("the buyer is dead: he keeps it", dead.person(1, 0), 1);
        dead.seed(seedFor(3, 2, 1));
        dead.drift(1);
        e.due("the seller is dead", dead.person(0, 0), 0);
        VoiceWills one = e.parishOf("p1;");
        one.seed(seedFor(1, 0, 1));
        e.due("the only one is last and first", one.drift(1), 1);
        e.due("not to himself", one.person(0, 0), 0);
        VoiceWills nothing = e.parishOf("p1;p2;");
        nothing.seed(seedFor(2, 0, 2));
        e.due("on 2 nothing", nothing.drift(1), 3);
        e.due("0 uses his own", nothing.person(0, 0), 0);
        e.due("1 uses his own", nothing.person(1, 0), 1);
    }

    private static void promise13() {
        e.says("n years (1 .. 60) BY DRAWS: who is alive (a SET). OUTSIDE, NOT: nobody.");
        VoiceWills x = e.parishOf("p1;p1;p1;p1;p1;p1;p1;");
        for (int n : new int[] {0, -1, 61, 62, Edges.LEAST, Edges.GREATEST}) {
            e.due("drift(" + n + ")", x.drift(n), OUTSIDE);
        }
        e.due("no draw was made", x.seed(0), 0);
        e.due("nothing to undo", x.told(11), 0);
        e.due("a year", x.drift(1), 126);
        e.due("sixty", x.drift(60), x.told(5));
        long seed = 0;
        for (int i = 0; i < 122; i++) {
            seed = next(seed);
        }
        e.due("sixty-one years of draws", x.seed(0), (int) seed);
        VoiceWills none = new VoiceWills();
        e.due("nobody", none.drift(1), NOT);
        e.due("nobody", none.drift(60), NOT);
        e.due("nobody, no years", none.drift(0), OUTSIDE);
        e.due("nobody, too many", none.drift(61), OUTSIDE);
        e.due("no draw was made", none.seed(0), 0);
        VoiceWills doors = e.parishOf("d1;c1;");
        e.due("doors, but nobody", doors.drift(1), NOT);
    }

    // ---- undone

    private static VoiceWills folk() {
        return e.parishOf("p1;p2;p3;p9;w0 1 2;d127;");
    }

    /** What one deed changes is undone, be it the only one. */
    private static void undoneIsAsBefore(String name, Edges.Deed deed) {
        VoiceWills x = folk();
        VoiceWills twin = folk();
        x.sell(2, 3);
        twin.sell(2, 3);
        deed.on(x);
        e.due(name + ": to undo", x.told(11), 2);
        e.due(name + ": undo()", x.undo(), 1);
        e.alike("undone " + name, x, twin);
        e.due(name + ": undo()", x.undo(), 0);
        e.alike("all undone", x, folk());
        e.due(name + ": undo()", x.undo(), NOT);
    }

    private static void theLatest() {
        e.says("UNDONE: the latest of die(), sell(), putBy(), will(), drift() that was not refused");
        undoneIsAsBefore("die", x -> x.die(0));
        undoneIsAsBefore("sell", x -> x.sell(0, 3));
        undoneIsAsBefore("will", x -> x.will(0, 9, 3));
        undoneIsAsBefore("drift", x -> {
            x.seed(seedFor(4, 0, 0));
            x.drift(7);
            x.seed(0);
        });
        VoiceWills put = folk();
        put.die(0);
        put.putBy(1, 1);
        e.due("put by undone", put.undo(), 1);
        e.due("voice", put.person(1, 0), 0);
        e.due("jar", put.person(1, 1), 2);
        // what changed nothing was not refused all the same
        VoiceWills same = folk();
        same.will(0, 1, 2);
        e.due("the same will", same.told(11), 1);
        same.seed(seedFor(4, 0, 2));
        same.drift(1);
        e.due("a year without a deed", same.told(11), 2);
        // refused ones are not kept
        same.die(4);
        same.sell(0, 0);
        same.sell(3, 0);
        same.putBy(0, 0);
        same.will(0, 0, 9);
        same.drift(0);
        same.drift(61);
        e.due("refused ones", same.told(11), 2);
        // nor is anything else
        same.see(0, true);
        same.has(0, 0);
        same.write(0, 0);
        same.tear();
        same.seed(3);
        same.after(1, 1);
        same.wills(1, 1, 0, 0);
        same.orders(3, NONE);
        e.due("other calls", same.told(11), 2);
    }

    private static void twentyAtMost() {
        e.says("(20 at most are kept, the oldest are lost)");
        for (int n = 19; n <= 43; n++) {
            VoiceWills x = folk();
            // the k-th makes A of person 2 what k tells
            for (int k = 0; k < n; k++) {
                x.will(2, k % 3 == 2 ? 3 : k % 3, k % 2 == 0 ? 9 : 0);
            }
            int kept = Math.min(n, 20);
            e.due("kept of " + n, x.told(11), kept);
            for (int i = 1; i <= kept; i++) {
                e.due("undo()", x.undo(), kept - i);
                int k = n - i - 1;
                e.due("A then", x.person(2, 2), k < 0 ? 9 : k % 3 == 2 ? 3 : k % 3);
                e.due("B then", x.person(2, 3), k < 0 || k % 2 == 0 ? 9 : 0);
            }
            e.due("no more", x.undo(), NOT);
            e.due("none", x.told(11), 0);
        }
        VoiceWills mixed = folk();
        for (int k = 0; k < 20; k++) {
            mixed.will(2, 0, 9);
        }
        mixed.die(0);
        e.due("a death is the latest of twenty", mixed.told(11), 20);
        e.due("undone", mixed.undo(), 19);
        e.due("alive again", mixed.told(5), 15);
        mixed.die(1);
        mixed.die(0);
        e.due("twenty again", mixed.told(11), 20);
        e.due("undone", mixed.undo(), 19);
        e.due("only 1 is dead", mixed.told(5), 13);
    }

    private static void allOfSectionTwo() {
        e.says("all of section 2 is as ahead of it; THE SEED stays");
        VoiceWills x = folk();
        x.seed(5);
        x.die(0);
        x.drift(1);
        long seed = next(next(5));
        x.undo();
        e.due("the seed stays", x.seed(5), (int) seed);
        e.due("deaths", x.told(4), 1);
        x.see(0, true);
        x.has(0, 9);
        x.write(1, 0);
        x.undo();
        e.due("deaths", x.told(4), 0);
        e.due("seen stays", x.told(8), 1);
        e.due("known stays", x.told(9), 1);
        e.due("the book stays", x.told(10), 1);
        e.due("the seed stays", x.seed(0), 5);
        VoiceWills kept = folk();
        kept.die(0);
        kept.keep(0);
        kept.die(1);
        kept.undo();
        e.due("images stay", kept.goBack(0), 1);
        e.due("as kept", kept.told(5), 14);
    }

    private static void promise14() {
        e.says("The latest is undone: how many more can be. NOT: none.");
        e.due("a new object", new VoiceWills().undo(), NOT);
        VoiceWills x = folk();
        e.due("a new parish", x.undo(), NOT);
        x.die(0);
        x.die(1);
        e.due("one more", x.undo(), 1);
        e.due("none more", x.undo(), 0);
        e.due("none", x.undo(), NOT);
        e.due("none again", x.undo(), NOT);
        x.die(3);
        e.due("a later one", x.undo(), 0);
        x.die(3);
        Edges.tell(x, "x");
        e.due("a fault leaves it", x.undo(), 0);
        x.die(3);
        Edges.tell(x, "p1;");
        e.due("a parish does not", x.undo(), NOT);
    }

    // ---- the seed, images

    private static void promise29() {
        e.says("THE SEED becomes v (0 .. 2147483647): what it was. OUTSIDE.");
        VoiceWills x = new VoiceWills();
        e.due("the greatest", x.seed(2147483647), 0);
        e.due("-1", x.seed(-1), OUTSIDE);
        e.due("the least number", x.seed(Edges.LEAST), OUTSIDE);
        e.due("-2147483647", x.seed(-2147483647), OUTSIDE);
        e.due("0", x.seed(0), 2147483647);
        e.due("1", x.seed(1), 0);
        e.due("it was 1", x.seed(0), 1);
    }

    private static void images() {
        e.says("IMAGES 0, 1 keep all of section 2, THE SEED.");
        VoiceWills x = folk();
        x.sell(1, 0);
        x.die(2);
        x.will(0, 3, 9);
        x.seed(123);
        x.keep(0);
        VoiceWills twin = folk();
        twin.sell(1, 0);
        twin.die(2);
        twin.will(0, 3, 9);
        twin.keep(1);
        x.die(0);
        x.seed(456);
        x.keep(1);
        x.will(1, 9, 9);
        x.die(1);
        x.die(3);
        x.seed(789);
        e.due("back to 0", x.goBack(0), 1);
        e.due("its seed", x.seed(0), 123);
        e.alike("goBack(0)", x, twin);
        e.due("back to 1", x.goBack(1), 1);
        e.due("its seed", x.seed(0), 456);
        e.due("its deaths", x.told(4), 2);
        e.due("who was alive", x.told(5), 10);
        e.due("an image may be gone back to again", x.goBack(0), 1);
        e.due("its seed again", x.seed(0), 123);
        e.alike("goBack(0) again", x, twin);
    }

    private static void promise30() {
        e.says("IMAGE i becomes what is so (nothing can be undone then): 1. UNKNOWN.");
        for (int i : new int[] {-1, 2, 3, 9, Edges.LEAST, Edges.GREATEST}) {
            VoiceWills y = folk();
            y.die(0);
            e.due("keep(" + i + ")", y.keep(i), UNKNOWN);
            e.due("refused: it can be undone", y.undo(), 0);
        }
        for (int i = 0; i <= 1; i++) {
            VoiceWills x = folk();
            x.die(0);
            x.die(1);
            e.due("keep(" + i + ")", x.keep(i), 1);
            e.due("to undo", x.told(11), 0);
            e.due("undo()", x.undo(), NOT);
            e.due("the other one is not kept by it", x.goBack(1 - i), NOT);
            x.die(2);
            e.due("later ones can be undone", x.undo(), 0);
            x.die(2);
            e.due("kept anew", x.keep(i), 1);
            x.die(3);
            x.goBack(i);
            e.due("the later one", x.told(5), 8);
        }
        VoiceWills nobody = new VoiceWills();
        e.due("an image of nobody", nobody.keep(1), 1);
        e.due("an image of nobody", nobody.goBack(1), 1);
    }

    private static void promise31() {
        e.says("What is so becomes IMAGE i (nothing can be undone then): 1. UNKNOWN, NOT: it was not kept.");
        for (int i : new int[] {-1, 2, 3, 9, Edges.LEAST, Edges.GREATEST}) {
            VoiceWills y = folk();
            y.keep(0);
            y.keep(1);
            y.die(0);
            e.due("goBack(" + i + ")", y.goBack(i), UNKNOWN);
            e.due("refused: still dead", y.told(5), 14);
            e.due("refused: it can be undone", y.undo(), 0);
        }
        for (int i = 0; i <= 1; i++) {
            VoiceWills x = folk();
            x.die(0);
            e.due("not kept", x.goBack(i), NOT);
            e.due("refused: it can be undone", x.told(11), 1);
            x.keep(1 - i);
            e.due("not kept, the other one is", x.goBack(i), NOT);
            x.die(1);
            e.due("the other one", x.goBack(1 - i), 1);
            e.due("to undo", x.told(11), 0);
            e.due("undo()", x.undo(), NOT);
            e.due("alive", x.told(5), 14);
            Edges.tell(x, "x");
            e.due("a fault leaves images", x.goBack(1 - i), 1);
            Edges.tell(x, "p1;");
            e.due("a parish does not", x.goBack(1 - i), NOT);
        }
        VoiceWills seen = folk();
        seen.keep(0);
        seen.see(0, true);
        seen.has(0, 0);
        seen.write(0, 9);
        seen.goBack(0);
        e.due("seen, known and the book are not of an image", seen.tear(), 3);
    }

    private static void fiveHundredCalls() {
        e.says("An object is used for at most 512 calls after it has been made; what later calls answer is free.");
        VoiceWills x = new VoiceWills();
        int calls = 7;
        Edges.tell(x, "p1;p1;");
        for (; calls < Edges.MOST_CALLS - 3; calls++) {
            e.due("will " + calls, x.will(0, calls % 2 == 0 ? 1 : 9, 9), calls == 7 ? 99 : calls % 2 == 0 ? 99 : 19);
        }
        e.due("call 510", x.told(11), 20);
        e.due("call 511", x.undo(), 19);
        e.due("call 512", x.person(0, 2), 9);
    }

    public static void main(String[] args) {
        theSeed();
        years();
        salesByDraws();
        promise13();
        theLatest();
        twentyAtMost();
        allOfSectionTwo();
        promise14();
        promise29();
        images();
        promise30();
        promise31();
        fiveHundredCalls();
        e.end();
    }
}
