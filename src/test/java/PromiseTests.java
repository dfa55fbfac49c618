/** For each promise of the document: ordinary inputs, the edges that it names, wrong inputs. */
public final class PromiseTests {
    private static final int NONE = -1, UNKNOWN = -1000000001, OUTSIDE = -1000000002, NOT = -1000000003, FULL = -1000000004;
    private static final String FIVE = "p2;p5;p9;p7;p5;w0 1 3;w1 2 9;w3 9 4;d3;d9;d18;d127;c2,6,4;";
    private static int wrong = 0;
    private static int checks = 0;

    private static void due(String what, int got, int want) {
        checks++;
        if (got != want) {
            wrong++;
            System.out.println(what + " answered " + got + ", due is " + want);
        }
    }

    private static void feedAll(VoiceWills x, String text) {
        for (int i = 0; i < text.length(); i++) {
            due("feed of '" + text.charAt(i) + "'", x.feed(text.charAt(i)), i + 1);
        }
    }

    private static VoiceWills parishOf(String text) {
        VoiceWills x = new VoiceWills();
        feedAll(x, text);
        int persons = x.parish();
        due("parish of " + text, persons < 0 ? -1 : 0, 0);
        return x;
    }

    /** What a text with a fault answers, what it leaves, and that the parish before it stays. */
    private static void faulty(String text, int kind, int at) {
        VoiceWills x = parishOf(FIVE);
        x.die(0);
        x.see(0, true);
        x.has(1, 0);
        x.write(1, 0);
        x.keep(1);
        x.will(1, 9, 9);
        feedAll(x, text);
        due("parish of \"" + text + "\"", x.parish(), -10 - kind);
        due("fault of \"" + text + "\"", x.fault(), at);
        due("told(3) behind a fault", x.told(3), 0);
        due("told(0) behind a fault", x.told(0), 5);
        due("told(1) behind a fault", x.told(1), 4);
        due("told(2) behind a fault", x.told(2), 3);
        due("told(4) behind a fault", x.told(4), 1);
        due("told(8) behind a fault", x.told(8), 1);
        due("told(9) behind a fault", x.told(9), 1);
        due("told(10) behind a fault", x.told(10), 1);
        due("undo behind a fault", x.undo(), 0);
        due("goBack behind a fault", x.goBack(1), 1);
        due("range behind a fault", x.range(3), 7);
        due("door behind a fault", x.door(2), 18);
        due("parish of nothing", x.parish(), 0);
        due("fault of nothing", x.fault(), NONE);
        due("told(0) of nothing", x.told(0), 0);
    }

    private static void sound(String text, int persons) {
        VoiceWills x = new VoiceWills();
        feedAll(x, text);
        due("parish of \"" + text + "\"", x.parish(), persons);
        due("fault of \"" + text + "\"", x.fault(), NONE);
    }

    private static void promise1() {
        VoiceWills x = new VoiceWills();
        for (int what = 0; what <= 11; what++) {
            due("new: told(" + what + ")", x.told(what), 0);
        }
        due("new: fault", x.fault(), NONE);
        due("new: person", x.person(0, 0), UNKNOWN);
        due("new: range", x.range(0), UNKNOWN);
        due("new: door", x.door(0), UNKNOWN);
        due("new: after nobody", x.after(0, 0), UNKNOWN);
        due("new: there is no order", x.whose(0, 0), OUTSIDE);
        due("new: nobody can die", x.whose(1, 0), OUTSIDE);
        due("new: judge", x.judge(), NONE);
        due("new: seed", x.seed(7), 0);
        due("new: goBack", x.goBack(0), NOT);
        due("NONE", VoiceWills.NONE, NONE);
        due("UNKNOWN", VoiceWills.UNKNOWN, UNKNOWN);
        due("OUTSIDE", VoiceWills.OUTSIDE, OUTSIDE);
        due("NOT", VoiceWills.NOT, NOT);
        due("FULL", VoiceWills.FULL, FULL);
    }

    private static void promise2() {
        VoiceWills x = new VoiceWills();
        due("feed(-1)", x.feed(-1), OUTSIDE);
        due("feed(256)", x.feed(256), OUTSIDE);
        due("feed(0)", x.feed(0), 1);
        due("feed(255)", x.feed(255), 2);
        for (int i = 3; i <= 240; i++) {
            due("feed " + i, x.feed(' '), i);
        }
        due("feed 241", x.feed(' '), FULL);
        due("feed 241, outside ahead of full", x.feed(256), OUTSIDE);
        due("told(3) when full", x.told(3), 240);
        due("parish of a full text", x.parish(), -11);
        due("feed behind parish", x.feed('p'), 1);
    }

    private static void promise3Sound() {
        sound("", 0);
        sound("   ", 0);
        sound("p0;", 1);
        sound(" p 009 ; ", 1);
        sound("p1;p2;p3;p4;p5;p6;p7;", 7);
        sound("p1;w0 9 9;", 1);
        sound("p1;p2;w0 1 1;", 2);
        sound("p1;p2;w 0 01 009 ;", 2);
        sound("d0;d127;d1;d2;d3;d4;", 0);
        sound("c0;", 0);
        sound("c 0 , 8,1,2 ,3, 4 ;", 0);
        sound("c1;p1;d1;w0 9 9;p9;", 2);
        StringBuilder full = new StringBuilder("p3;");
        while (full.length() < 240) {
            full.append(' ');
        }
        sound(full.toString(), 1);
    }

    private static void promise3() {
        promise3Sound();
        VoiceWills x = parishOf(FIVE);
        x.seed(99);
        x.die(0);
        x.keep(0);
        x.die(1);
        x.see(0, true);
        x.has(2, 1);
        x.write(2, 1);
        x.write(2, 9);
        feedAll(x, "p4;p9;w0 1 9;");
        due("second parish", x.parish(), 2);
        due("alive", x.told(5), 3);
        due("doors", x.told(1), 0);
        due("parts", x.told(2), 0);
        due("letters", x.told(3), 0);
        due("deaths", x.told(4), 0);
        due("silent", x.told(6), 2);
        due("seen", x.told(8), 0);
        due("known", x.told(9), 0);
        due("book", x.told(10), 0);
        due("undone", x.told(11), 0);
        due("jar", x.person(0, 1), 0);
        due("A", x.person(0, 2), 1);
        due("A untold", x.person(1, 2), 9);
        due("undo", x.undo(), NOT);
        due("image", x.goBack(0), NOT);
        due("the seed stays", x.seed(1), 99);
        x.sell(0, 1);
        x.sell(1, 0);
        feedAll(x, "p4;p2;p3;");
        due("third parish", x.parish(), 3);
        due("no doors", x.told(1), 0);
        due("no parts", x.told(2), 0);
        due("no will", x.person(0, 2), 9);
        x.sell(0, 1);
        feedAll(x, "p4;p2;w0 1 9;");
        due("fourth parish, wills anew", x.parish(), 2);
        due("no jars", x.person(1, 1), 0);
        due("own voices", x.person(1, 0), 1);
    }

    private static void promise4Cannot() {
        faulty("x", 1, 0);
        faulty("P1;", 1, 0);
        faulty(";", 1, 0);
        faulty("5", 1, 0);
        faulty("p1;;", 1, 3);
        faulty("p", 1, 1);
        faulty("p ", 1, 2);
        faulty("p;", 1, 1);
        faulty("p1", 1, 2);
        faulty("p1 ", 1, 3);
        faulty("p1p2;", 1, 2);
        faulty("p1 2;", 1, 3);
        faulty("p-1;", 1, 1);
        faulty("p1\t;", 1, 2);
        faulty("p1;w0 9;", 1, 7);
        faulty("p1;w0,9 9;", 1, 5);
        faulty("p1;w0 9 9 9;", 1, 10);
        faulty("p1;p2;w01 9;", 1, 11);
        faulty("c;", 1, 1);
        faulty("c1,;", 1, 3);
        faulty("c1,,2;", 1, 3);
        faulty("c1 2;", 1, 3);
        faulty("c1,2", 1, 4);
        faulty("c1,1,1,1,1,1,1;", 1, 12);
        faulty("c1,1,1,1,1,1 ,x", 1, 13);
        faulty("d1,2;", 1, 2);
    }

    private static void promise4() {
        promise4Cannot();
        faulty("p10;", 2, 1);
        faulty("p 0001;", 2, 2);
        faulty("p1234567890123;", 2, 1);
        faulty("d128;", 2, 1);
        faulty("d0127;", 2, 1);
        faulty("d 999", 2, 2);
        faulty("c9;", 2, 1);
        faulty("c8, 9x", 2, 4);
        faulty("w0 9 9;", 2, 1);
        faulty("p1;w1 0 9;", 2, 4);
        faulty("p1;w9 9 9;", 2, 4);
        faulty("p1;w0 1 9;", 2, 6);
        faulty("p1;w0 9 8;", 2, 8);
        faulty("p1;w0 10 9;", 2, 6);
        faulty("p1;w0 9 1;p1;", 2, 8);
        faulty("p1;p1;p1;p1;p1;p1;p1;p1;", 3, 21);
        faulty("p1;p1;p1;p1;p1;p1;p1; px", 3, 22);
        faulty("d1;d1;d1;d1;d1;d1;d1;", 3, 18);
        faulty("c1;p1;c2;", 3, 6);
        faulty("p1;w0 9 9;w0 9 9;", 4, 11);
        faulty("p1;w0 9 9;w00", 4, 11);
        faulty("p1;p1;w0 9 9;w1 9 9;w0 9 9;", 4, 21);
        faulty("p1;w0 0 9;", 4, 6);
        faulty("p1;w0 9 000;", 4, 8);
        faulty("p1;p1;w1 0 1;x", 4, 11);
        VoiceWills x = new VoiceWills();
        feedAll(x, "px");
        due("parish with a fault", x.parish(), -11);
        feedAll(x, "p1;");
        due("fault stays till the next parish", x.fault(), 1);
        due("sound again", x.parish(), 1);
        due("no fault any more", x.fault(), NONE);
    }

    private static void promise5() {
        VoiceWills x = parishOf(FIVE);
        x.feed('p');
        int[] first = {5, 4, 3, 1, 0, 31, 4, 0, 0, 0, 0, 0};
        for (int what = 0; what < first.length; what++) {
            due("told(" + what + ")", x.told(what), first[what]);
        }
        x.die(2);
        x.die(0);
        x.die(4);
        x.see(0, true);
        x.see(1, true);
        x.has(0, 9);
        x.write(0, 9);
        x.write(0, 9);
        x.write(0, 9);
        int[] then = {5, 4, 3, 1, 3, 10, 0, 16, 2, 1, 3, 3};
        for (int what = 0; what < then.length; what++) {
            due("then told(" + what + ")", x.told(what), then[what]);
        }
        due("told(-1)", x.told(-1), OUTSIDE);
        due("told(12)", x.told(12), OUTSIDE);
        VoiceWills y = parishOf("p9;p1;p9;");
        due("who uses none", y.told(6), 5);
        VoiceWills z = parishOf("p1;p9;p3;");
        z.die(2);
        z.die(0);
        due("lost, for one used none", z.told(7), 1);
        z.die(1);
        due("all lost", z.told(7), 5);
    }

    private static void promise6() {
        VoiceWills x = parishOf(FIVE);
        int[][] first = {{0, 0, 1, 3, 11, 1}, {1, 0, 2, 9, 13, 1}, {9, 0, 9, 9, 0, 1}, {3, 0, 9, 4, 10, 1}, {4, 0, 9, 9, 12, 1}};
        for (int p = 0; p < first.length; p++) {
            for (int what = 0; what < 6; what++) {
                due("person(" + p + ", " + what + ")", x.person(p, what), first[p][what]);
            }
        }
        x.die(0);
        int[][] then = {{9, 0, 1, 3, 0, 0}, {0, 2, 2, 9, 11, 1}};
        for (int p = 0; p < then.length; p++) {
            for (int what = 0; what < 6; what++) {
                due("then person(" + p + ", " + what + ")", x.person(p, what), then[p][what]);
            }
        }
        due("person(5, 0)", x.person(5, 0), UNKNOWN);
        due("person(-1, 0)", x.person(-1, 0), UNKNOWN);
        due("person(0, 6)", x.person(0, 6), OUTSIDE);
        due("person(0, -1)", x.person(0, -1), OUTSIDE);
        due("person(5, 6)", x.person(5, 6), UNKNOWN);
    }

    private static void promise7() {
        VoiceWills x = parishOf(FIVE);
        int[] ranges = {2, 5, 9, 7, 5};
        for (int v = 0; v < ranges.length; v++) {
            due("range(" + v + ")", x.range(v), ranges[v]);
        }
        x.die(0);
        due("range of a dead one's voice", x.range(0), 2);
        due("range(5)", x.range(5), UNKNOWN);
        due("range(-1)", x.range(-1), UNKNOWN);
        due("range(9)", x.range(9), UNKNOWN);
    }

    private static void promise8() {
        VoiceWills x = parishOf(FIVE);
        due("door(0)", x.door(0), 3);
        due("door(1)", x.door(1), 9);
        due("door(2)", x.door(2), 18);
        due("door(3)", x.door(3), 127);
        due("door(4)", x.door(4), UNKNOWN);
        due("door(-1)", x.door(-1), UNKNOWN);
    }

    private static void promise9() {
        VoiceWills x = parishOf("p1;p2;p3;p9;p9;w0 1 2;w1 0 9;");
        due("to A", x.die(0), 1);
        due("A uses it", x.person(1, 0), 0);
        due("A's own is put by", x.person(1, 1), 2);
        due("dead twice", x.die(0), NOT);
        due("A dead: to the least mute; his jar to the next mute", x.die(1), 3);
        due("the mute has it", x.person(3, 0), 0);
        due("the jar's voice", x.person(4, 0), 1);
        due("no will, no mute: lost", x.die(2), NONE);
        due("lost", x.told(7), 4);
        due("to nobody again", x.die(4), NONE);
        due("the last", x.die(3), NONE);
        due("all lost", x.told(7), 7);
        due("deaths", x.told(4), 5);
        due("die(5)", x.die(5), UNKNOWN);
        due("die(-1)", x.die(-1), UNKNOWN);

        VoiceWills y = parishOf("p1;p2;p3;w0 1 2;");
        y.die(1);
        due("to B", y.die(0), 2);
        due("B's jar", y.person(2, 1), 4);

        VoiceWills z = parishOf("p9;p1;p9;w0 1 1;");
        due("a mute one dies", z.die(0), NONE);
        due("nobody got a voice", z.person(1, 0), 1);

        VoiceWills small = parishOf("p1;p2;p9;w0 1 9;w1 2 9;");
        small.die(0);
        small.putBy(1, 1);
        due("to A, who was mute", small.die(1), 2);
        due("the jar's voice 0 is lost", small.told(7), 1);
        due("a dead one's jar is empty", small.person(1, 1), 0);

        VoiceWills zero = parishOf("p9;p2;p3;w1 2 9;");
        zero.die(1);
        zero.putBy(2, 2);
        due("to the mute 0", zero.die(2), 0);
        due("he uses it", zero.person(0, 0), 2);

        VoiceWills jar = parishOf("p1;p2;p3;p9;p9;p9;w0 2 9;w1 2 9;");
        jar.will(2, 9, 9);
        jar.die(0);
        jar.die(1);
        due("two put by", jar.person(2, 1), 5);
        due("his voice first to the least mute", jar.die(2), 3);
        due("used one", jar.person(3, 0), 1);
        due("least of the jar", jar.person(4, 0), 0);
        due("next of the jar", jar.person(5, 0), 2);
        due("none lost", jar.told(7), 0);
    }

    private static void promise10() {
        VoiceWills x = parishOf("p1;p2;p9;p3;");
        due("sold, none left", x.sell(0, 1), 9);
        due("buyer uses it", x.person(1, 0), 0);
        due("buyer's own is put by", x.person(1, 1), 2);
        due("seller has none", x.sell(0, 1), NOT);
        due("sold on, the least of the jar", x.sell(1, 3), 1);
        due("out of the jar", x.person(1, 1), 0);
        due("to a mute", x.sell(3, 2), 3);
        due("the mute's jar stays empty", x.person(2, 1), 0);
        x.die(3);
        due("seller dead", x.sell(3, 0), NOT);
        due("buyer dead", x.sell(1, 3), NOT);
        due("to himself", x.sell(1, 1), UNKNOWN);
        due("sell(4, 0)", x.sell(4, 0), UNKNOWN);
        due("sell(0, 4)", x.sell(0, 4), UNKNOWN);
        due("sell(-1, 0)", x.sell(-1, 0), UNKNOWN);
        due("sell(0, -1)", x.sell(0, -1), UNKNOWN);

        VoiceWills y = parishOf("p1;p2;p3;p4;w0 3 9;w1 3 9;");
        y.die(0);
        y.die(1);
        due("jar of two", y.person(3, 1), 9);
        due("the least of two", y.sell(3, 2), 0);
        due("one stays", y.person(3, 1), 8);
    }

    private static void promise11() {
        VoiceWills x = parishOf("p1;p2;p9;w0 1 9;");
        due("not there yet", x.putBy(1, 1), NOT);
        x.die(0);
        due("put by", x.putBy(1, 1), 0);
        due("uses", x.person(1, 0), 1);
        due("jar", x.person(1, 1), 1);
        due("the one used is not in the jar", x.putBy(1, 1), NOT);
        due("a voice that there is not, 0 .. 6", x.putBy(1, 6), NOT);
        due("dead", x.putBy(0, 0), NOT);
        due("voice 7", x.putBy(1, 7), UNKNOWN);
        due("voice 9", x.putBy(1, 9), UNKNOWN);
        due("voice -1", x.putBy(1, -1), UNKNOWN);
        due("person 3", x.putBy(3, 0), UNKNOWN);
        due("unknown ahead of not", x.putBy(0, 7), UNKNOWN);
    }

    private static void promise12() {
        VoiceWills x = parishOf("p1;p2;p3;w0 1 2;");
        due("as it was", x.will(0, 2, 9), 12);
        due("changed A", x.person(0, 2), 2);
        due("changed B", x.person(0, 3), 9);
        due("as changed", x.will(0, 9, 9), 29);
        due("nobody", x.will(0, 9, 1), 99);
        due("A, B alike", x.will(0, 1, 1), 91);
        due("A like P", x.will(0, 0, 9), UNKNOWN);
        due("B like P", x.will(0, 9, 0), UNKNOWN);
        due("A unknown", x.will(0, 3, 9), UNKNOWN);
        due("B unknown", x.will(0, 9, 8), UNKNOWN);
        due("A -1", x.will(0, -1, 9), UNKNOWN);
        due("P unknown", x.will(3, 0, 1), UNKNOWN);
        due("P 9", x.will(9, 0, 1), UNKNOWN);
        x.die(1);
        due("to a dead one", x.will(0, 1, 2), 11);
        due("of a dead one", x.will(1, 0, 2), NOT);
        due("of a dead one, to himself", x.will(1, 1, 2), UNKNOWN);
        due("it goes to B", x.die(0), 2);
    }

    private static void promise13() {
        VoiceWills x = parishOf("p1;p2;p9;");
        due("drift(0)", x.drift(0), OUTSIDE);
        due("drift(61)", x.drift(61), OUTSIDE);
        due("refused: no draw", x.seed(0), 0);
        due("nobody", new VoiceWills().drift(1), NOT);
        due("nobody, outside ahead", new VoiceWills().drift(0), OUTSIDE);
        // 0 becomes 12345 (a draw of 0), then 1406932606 (21468, of 3: 0): person 0 dies
        due("the first of seed 0 dies, the mute gets his voice", x.drift(1), 6);
        due("seed behind two draws", x.seed(0), 1406932606);
        due("voice", x.person(2, 0), 0);
        due("dead already, nothing", x.drift(1), 6);
        due("one step", x.told(11), 2);
        due("deaths", x.told(4), 1);
        due("undone as one", x.undo(), 1);
        due("seed stays", x.seed(0), 1406932606);

        VoiceWills one = parishOf("p1;");
        int[] year = draw(firstSeedFor(1, 0, 1), 1);
        one.seed(firstSeedFor(1, 0, 1));
        due("one alone sells to nobody", one.drift(1), 1);
        due("he keeps it", one.person(0, 0), 0);
        due("seed", one.seed(0), year[2]);

        VoiceWills last = parishOf("p1;p2;p3;");
        last.seed(firstSeedFor(3, 2, 1));
        due("the last sells to the first", last.drift(1), 7);
        due("the first has it", last.person(0, 0), 2);
        due("his own put by", last.person(0, 1), 1);
        due("the last has none", last.person(2, 0), 9);
        last.seed(firstSeedFor(3, 2, 1));
        due("he uses none: no sale", last.drift(1), 7);
        due("the first still has it", last.person(0, 0), 2);

        VoiceWills next = parishOf("p1;p2;p3;");
        next.seed(firstSeedFor(3, 0, 1));
        due("one sells to the next", next.drift(1), 7);
        due("the next has it", next.person(1, 0), 0);

        VoiceWills rest = parishOf("p1;p2;p3;");
        rest.seed(firstSeedFor(3, 1, 2));
        due("on 2 nothing", rest.drift(1), 7);
        due("nothing sold", rest.told(6), 0);
        rest.die(2);
        rest.seed(firstSeedFor(3, 1, 1));
        due("the buyer is dead", rest.drift(1), 3);
        due("not sold", rest.person(1, 0), 1);
        rest.die(0);
        rest.die(1);
        due("all dead, yet persons", rest.drift(60), 0);
    }

    /** Of one year: whom the draw meets, the lot, the seed then. */
    private static int[] draw(int seed, int persons) {
        long s = (seed * 1103515245L + 12345L) & 0x7fffffffL;
        int p = (int) (s >> 16) % persons;
        s = (s * 1103515245L + 12345L) & 0x7fffffffL;
        return new int[] {p, (int) (s >> 16) % 3, (int) s};
    }

    private static int firstSeedFor(int persons, int p, int lot) {
        for (int seed = 1; ; seed++) {
            int[] year = draw(seed, persons);
            if (year[0] == p && year[1] == lot) {
                return seed;
            }
        }
    }

    private static void promise14() {
        VoiceWills x = parishOf("p1;p2;p3;p9;w0 1 2;");
        due("none", x.undo(), NOT);
        x.die(0);
        x.putBy(1, 1);
        x.sell(1, 3);
        x.will(2, 1, 3);
        x.drift(3);
        due("refused is not kept", x.die(9), UNKNOWN);
        due("five", x.told(11), 5);
        due("drift undone", x.undo(), 4);
        due("will undone", x.undo(), 3);
        due("A", x.person(2, 2), 9);
        due("sale undone", x.undo(), 2);
        due("his voice", x.person(1, 0), 1);
        due("the mute's", x.person(3, 0), 9);
        due("put by undone", x.undo(), 1);
        due("his voice again", x.person(1, 0), 0);
        due("death undone", x.undo(), 0);
        due("alive", x.told(5), 15);
        due("deaths", x.told(4), 0);
        due("jar", x.person(1, 1), 0);
        due("voice", x.person(0, 0), 0);
        due("no more", x.undo(), NOT);

        for (int i = 0; i < 47; i++) {
            due("will " + i, x.will(0, 1 + i % 3, 9) < 0 ? -1 : 0, 0);
        }
        due("twenty are kept", x.told(11), 20);
        for (int i = 19; i >= 0; i--) {
            due("undo", x.undo(), i);
            due("A then", x.person(0, 2), 1 + (i + 26) % 3);
        }
        due("the oldest are lost", x.undo(), NOT);
    }

    private static void promise15() {
        VoiceWills x = parishOf(FIVE);
        due("another dies", x.after(1, 3), 3);
        due("the mute", x.after(1, 2), 9);
        due("0 is no order", x.after(0, 3), OUTSIDE);
        due("0 is no order for the mute", x.after(0, 2), OUTSIDE);
        due("unknown ahead of order 0", x.after(0, 5), UNKNOWN);
        due("from the first figure on", x.after(12, 2), 0);
        due("the other way", x.after(21, 2), 1);
        due("a dead one", x.after(21, 0), 9);
        due("all die", x.after(12345, 4), 9);
        due("nothing changes", x.told(5), 31);
        due("nothing to undo", x.told(11), 0);
        due("twice", x.after(11, 0), OUTSIDE);
        due("twice, apart", x.after(121, 0), OUTSIDE);
        due("figure 0", x.after(10, 0), OUTSIDE);
        due("figure 0 within", x.after(102, 0), OUTSIDE);
        due("figure 6", x.after(6, 0), OUTSIDE);
        due("negative", x.after(-1, 0), OUTSIDE);
        due("least", x.after(Integer.MIN_VALUE, 0), OUTSIDE);
        due("greatest", x.after(Integer.MAX_VALUE, 0), OUTSIDE);
        due("eight figures", x.after(12345123, 0), OUTSIDE);
        due("person 5", x.after(1, 5), UNKNOWN);
        due("unknown ahead", x.after(11, -1), UNKNOWN);
        x.die(0);
        due("one is dead", x.after(1, 1), OUTSIDE);
        due("from now", x.after(2, 2), 0);
        VoiceWills seven = parishOf("p1;p1;p1;p1;p1;p1;p9;");
        due("seven", seven.after(1234567, 6), 9);
        due("six", seven.after(123456, 6), 0);
    }

    private static void promise16() {
        VoiceWills x = parishOf(FIVE);
        due("0 is no order", x.whose(0, 3), OUTSIDE);
        due("his own", x.whose(1, 3), 3);
        due("A", x.whose(1, 0), 1);
        due("the first", x.whose(2, 0), 0);
        due("put by is not used", x.whose(1, 1), NONE);
        due("mute's", x.whose(1, 2), NONE);
        due("voice 6 of nobody", x.whose(1, 6), NONE);
        due("voice 6 of nobody, no order", x.whose(0, 6), OUTSIDE);
        due("voice 7", x.whose(0, 7), UNKNOWN);
        due("voice 9", x.whose(0, 9), UNKNOWN);
        due("voice -1", x.whose(0, -1), UNKNOWN);
        due("no order", x.whose(7, 0), OUTSIDE);
        due("unknown ahead", x.whose(7, 7), UNKNOWN);
        due("nothing changes", x.told(4), 0);
    }

    private static void promise17() {
        VoiceWills x = parishOf(FIVE);
        due("as it is", x.wills(1, 1, 0, 0), 0);
        due("as it is, the set", x.wills(1, 1, 0, 1), 0);
        due("one", x.wills(1, 4, 0, 0), 1);
        due("one, the set", x.wills(1, 4, 0, 1), 1);
        due("two", x.wills(12, 4, 1, 0), 2);
        due("two, the set", x.wills(12, 4, 1, 1), 3);
        due("0 is no order", x.wills(0, 4, 0, 0), OUTSIDE);
        due("0 is no order, the set", x.wills(0, 4, 0, 1), OUTSIDE);
        due("0 is no order, though he uses it now", x.wills(0, 4, 4, 0), OUTSIDE);
        due("the user lives: not to be had", x.wills(4, 4, 0, 0), NONE);
        due("unknown ahead of order 0", x.wills(0, 5, 0, 0), UNKNOWN);
        due("to nobody, so that the mute gets it", x.wills(1, 2, 0, 1), 1);
        due("to a dead one", x.wills(1, 0, 0, 0), NONE);
        due("what 2", x.wills(1, 1, 0, 2), OUTSIDE);
        due("what -1", x.wills(1, 1, 0, -1), OUTSIDE);
        due("no order", x.wills(11, 1, 0, 0), OUTSIDE);
        due("person 5", x.wills(1, 5, 0, 0), UNKNOWN);
        due("voice -1", x.wills(1, 1, -1, 0), UNKNOWN);
        due("voice 7", x.wills(1, 1, 7, 0), UNKNOWN);
        due("voice 9", x.wills(1, 1, 9, 0), UNKNOWN);
        due("a voice that there is not", x.wills(1, 1, 2, 0), UNKNOWN);
        due("a voice of nobody", x.wills(1, 1, 5, 0), UNKNOWN);
        due("unknown ahead", x.wills(11, 5, 0, 2), UNKNOWN);
        due("nothing changes", x.person(0, 2), 1);
        due("nothing to undo", x.told(11), 0);
        VoiceWills y = parishOf("p1;p1;p1;p1;");
        due("each of three must pass it on", y.wills(123, 3, 0, 0), 1);
        due("straight", y.wills(123, 3, 0, 1), 1);
        due("hand to hand is longer", y.wills(1, 3, 0, 1), 1);
        VoiceWills z = parishOf("p1;p1;p1;p1;w0 1 9;w1 2 9;w2 0 9;");
        due("the last of a chain", z.wills(123, 3, 0, 1), 1);
        z.die(3);
        due("nobody left", z.wills(123, 2, 0, 0), NONE);
        VoiceWills keeps = parishOf("p1;p2;w0 1 9;");
        due("to nobody, so that he keeps his own", keeps.wills(1, 1, 1, 0), 1);
        due("to nobody, the set", keeps.wills(1, 1, 1, 1), 1);
        VoiceWills up = parishOf("p1;p2;p3;p4;w1 2 9;w2 3 9;");
        due("two, the later one's to 0", up.wills(23, 0, 2, 0), 2);
        due("two, the set", up.wills(23, 0, 2, 1), 6);
        VoiceWills down = parishOf("p1;p2;p3;p4;w2 1 9;w1 3 9;");
        due("two, the other way", down.wills(32, 0, 1, 0), 2);
        due("two, the other set", down.wills(32, 0, 1, 1), 6);
        VoiceWills first = parishOf("p1;p2;");
        due("one, to 0", first.wills(2, 0, 1, 1), 2);
        VoiceWills chain = parishOf("p1;p2;p3;p4;p5;w0 1 9;w1 2 9;w2 3 9;w3 9 9;");
        due("past the chain", chain.wills(1234, 4, 3, 0), 2);
        due("of like ones the least", chain.wills(1234, 4, 0, 1), 1);
        VoiceWills three = parishOf("p1;p2;p3;p4;w0 3 9;w1 3 9;w2 3 9;");
        due("two are enough of two", three.wills(12, 3, 3, 1), 3);
        due("three are too many", three.wills(123, 3, 3, 0), NONE);
        due("three are too many, the set", three.wills(123, 3, 3, 1), NONE);
    }

    private static void promise18() {
        VoiceWills x = parishOf(FIVE);
        due("how many", x.sing(NONE), 3);
        due("part 0", x.sing(0), 0);
        due("part 1", x.sing(1), 1);
        due("part 2", x.sing(2), 4);
        due("part 3", x.sing(3), UNKNOWN);
        due("part -2", x.sing(-2), UNKNOWN);
        VoiceWills y = parishOf("p4;p5;c4,3;");
        due("both sing, though 0 comes first", y.sing(NONE), 2);
        due("1 leaves 0 to the second part", y.sing(0), 1);
        due("0", y.sing(1), 0);
        VoiceWills z = parishOf("p4;c4,5;");
        due("one part", z.sing(NONE), 1);
        due("the first part, nobody last", z.sing(0), 0);
        due("nobody", z.sing(1), NONE);
        z.die(0);
        due("dead", z.sing(NONE), 0);
        due("dead, nobody", z.sing(0), NONE);
        VoiceWills far = parishOf("p0;p8;p9;c2,6,8;");
        due("two apart is too far", far.sing(NONE), 1);
        due("nobody near 2", far.sing(0), NONE);
        due("nobody near 6", far.sing(1), NONE);
        due("the mute does not sing", far.sing(2), 1);
        far.sell(1, 2);
        due("by the voice used", far.sing(2), 2);
        VoiceWills late = parishOf("p1;p5;c8,1,4;");
        due("a part between may stay without", late.sing(NONE), 2);
        due("nobody there", late.sing(0), NONE);
        due("0 there", late.sing(1), 0);
        due("1 there", late.sing(2), 1);
        VoiceWills six = parishOf("p1;p1;p1;p1;p1;p1;p1;c0,1,2,0,1,2;");
        due("six", six.sing(NONE), 6);
        for (int k = 0; k < 6; k++) {
            due("six, part " + k, six.sing(k), k);
        }
    }

    private static void promise19() {
        VoiceWills x = parishOf(FIVE);
        due("bid", x.bid(0, 10), 90);
        due("bid of 0", x.bid(0, 0), 0);
        due("bid of 99", x.bid(1, 99), 6 * 3 * 99);
        due("without a voice", x.bid(2, 99), 0);
        due("c 100", x.bid(0, 100), OUTSIDE);
        due("c -1", x.bid(0, -1), OUTSIDE);
        due("person 5", x.bid(5, 100), UNKNOWN);
        x.die(0);
        due("dead", x.bid(0, 1), NOT);
        due("dead, outside ahead", x.bid(0, 100), OUTSIDE);
        due("by the voice used", x.bid(1, 1), 3 * 3);
    }

    private static void promise20() {
        VoiceWills x = parishOf(FIVE);
        due("nobody", x.live(0, 60, 100), 1000000000);
        due("no year", x.live(31, 0, 100), 1000000000);
        due("never", x.live(31, 60, 0), 1000000000);
        due("surely", x.live(1, 1, 100), 0);
        due("two, two years", x.live(3, 2, 10), 656100000);
        due("cut each time", x.live(3, 60, 1), 299380357);
        due("seven in a hundred", x.live(1, 3, 7), 804357000);
        due("n -1", x.live(1, -1, 5), OUTSIDE);
        due("n 61", x.live(1, 61, 5), OUTSIDE);
        due("q -1", x.live(1, 1, -1), OUTSIDE);
        due("q 101", x.live(1, 1, 101), OUTSIDE);
        due("set 32", x.live(32, 61, 5), UNKNOWN);
        due("set -1", x.live(-1, 1, 5), UNKNOWN);
        x.die(0);
        due("one is dead", x.live(3, 1, 5), NOT);
        due("one is dead, outside ahead", x.live(3, 61, 5), OUTSIDE);
        due("others", x.live(2, 1, 5), 950000000);
    }

    private static void promise21() {
        VoiceWills x = parishOf(FIVE);
        due("door 4", x.see(4, true), UNKNOWN);
        due("door -1", x.see(-1, false), UNKNOWN);
        for (int i = 1; i <= 6; i++) {
            due("see " + i, x.see(3, true), i);
        }
        due("seventh", x.see(3, true), FULL);
        due("seventh of door 4", x.see(4, true), UNKNOWN);
        due("seen", x.told(8), 6);
        due("spoke as before", x.spoke(0), 27);
    }

    private static void promise22() {
        VoiceWills x = parishOf(FIVE);
        due("all voices", x.spoke(0), 27);
        due("all who use one", x.spoke(1), 27);
        x.see(0, true);
        due("opened", x.spoke(0), 3);
        x.see(1, false);
        due("stayed shut", x.spoke(0), 2);
        due("who", x.spoke(1), 2);
        x.sell(1, 2);
        due("who uses it now", x.spoke(1), 4);
        x.see(0, false);
        due("cannot be", x.spoke(0), 0);
        due("what 2", x.spoke(2), OUTSIDE);
        due("what -1", x.spoke(-1), OUTSIDE);
        VoiceWills y = parishOf("p1;p2;d3;");
        y.die(0);
        due("a lost voice is a voice", y.spoke(0), 3);
        due("nobody alive uses it", y.spoke(1), 2);
    }

    private static void promise23() {
        VoiceWills x = parishOf("p1;p1;p1;p1;p1;d127;d1;d3;d28;d7;");
        due("the least of the best", x.knock(), 2);
        x.see(2, true);
        due("then", x.knock(), 1);
        x.see(1, true);
        due("none parts one", x.knock(), NONE);
        VoiceWills y = parishOf("p1;p9;d0;d3;d2;");
        due("one voice", y.knock(), NONE);
        due("door 0", parishOf("p1;p1;d1;d2;").knock(), 0);
        due("no doors", parishOf("p1;p1;").knock(), NONE);
        due("doors that know all or none", parishOf("p1;p1;d0;d3;d124;").knock(), NONE);
        due("a bad one is better than none", parishOf("p1;p1;p1;p1;d15;d8;d0;").knock(), 1);
    }

    private static void promise24() {
        VoiceWills x = parishOf(FIVE);
        due("person 5", x.has(5, 0), UNKNOWN);
        due("voice 7", x.has(0, 7), UNKNOWN);
        due("voice 8", x.has(0, 8), UNKNOWN);
        due("voice 10", x.has(0, 10), UNKNOWN);
        due("voice -1", x.has(0, -1), UNKNOWN);
        due("voice 6", x.has(0, 6), 1);
        due("none", x.has(0, 9), 2);
        for (int i = 3; i <= 6; i++) {
            due("has " + i, x.has(1, 1), i);
        }
        due("seventh", x.has(1, 1), FULL);
        due("seventh of voice 7", x.has(1, 7), UNKNOWN);
        due("known", x.told(9), 6);
    }

    private static void promise25() {
        VoiceWills x = parishOf(FIVE);
        due("of nobody", x.orders(0, NONE), 1);
        due("of nobody, the only one, though after() takes no 0", x.orders(0, 0), 0);
        due("of nobody, another", x.orders(0, 1), NONE);
        due("of nobody, first", x.orders(0, -2), NONE);
        due("of two", x.orders(3, NONE), 2);
        due("of four", x.orders(27, NONE), 24);
        int[] rising = {124, 142, 214, 241, 412, 421};
        for (int i = 0; i < rising.length; i++) {
            due("of three, " + i, x.orders(11, i), rising[i]);
        }
        due("of three, no more", x.orders(11, 6), NONE);
        due("i -3", x.orders(11, -3), NONE);
        due("of one, first", x.orders(8, -2), 3);
        due("of two, first", x.orders(3, -2), NONE);
        x.has(2, 0);
        due("0 dies ahead of 1", x.orders(3, NONE), 1);
        due("that one", x.orders(3, 0), 12);
        due("no more", x.orders(3, 1), NONE);
        due("first", x.orders(3, -2), 0);
        due("none", x.orders(1, NONE), 0);
        due("none, first", x.orders(1, -2), NONE);
        due("none dies, not so", x.orders(0, NONE), 0);
        due("none dies, none fits", x.orders(0, 0), NONE);
        due("five", x.orders(31, 0), OUTSIDE);
        due("set 32", x.orders(32, 0), UNKNOWN);
        due("set -1", x.orders(-1, 0), UNKNOWN);
        x.tear();
        x.has(0, 9);
        due("dead ones use none", x.orders(1, NONE), 1);
        due("nothing changes", x.told(4), 0);
        x.die(0);
        due("one is dead", x.orders(3, NONE), NOT);
        due("five, one dead", x.orders(31, NONE), OUTSIDE);
    }

    private static void promise26() {
        VoiceWills x = parishOf(FIVE);
        due("person 5", x.write(5, 0), UNKNOWN);
        due("person -1", x.write(-1, 0), UNKNOWN);
        due("voice 7", x.write(0, 7), UNKNOWN);
        due("voice 8", x.write(0, 8), UNKNOWN);
        due("voice -1", x.write(0, -1), UNKNOWN);
        for (int i = 1; i <= 15; i++) {
            due("write " + i, x.write(i % 5, i % 2 == 0 ? 9 : i % 7), i);
        }
        due("sixteenth", x.write(0, 0), FULL);
        due("sixteenth of voice 7", x.write(0, 7), UNKNOWN);
        due("book", x.told(10), 15);
    }

    private static void promise27() {
        VoiceWills x = parishOf(FIVE);
        due("nothing", x.tear(), 0);
        x.see(0, true);
        x.has(0, 0);
        x.has(0, 1);
        x.write(0, 0);
        x.write(0, 0);
        x.write(0, 3);
        due("all", x.tear(), 6);
        for (int what = 8; what <= 10; what++) {
            due("told(" + what + ")", x.told(what), 0);
        }
        due("spoke", x.spoke(0), 27);
        due("orders", x.orders(3, NONE), 2);
        due("judge", x.judge(), NONE);
        due("again", x.tear(), 0);
    }

    private static void promise28() {
        VoiceWills x = parishOf(FIVE);
        due("empty", x.judge(), NONE);
        x.write(0, 0);
        x.write(2, 9);
        due("all so", x.judge(), NONE);
        x.write(1, 0);
        x.write(3, 0);
        due("the first that is otherwise", x.judge(), 2);
        x.die(0);
        due("0 is dead now", x.judge(), 0);
        x.undo();
        due("undone", x.judge(), 2);
        x.tear();
        x.write(0, 9);
        x.die(0);
        due("a dead one uses none", x.judge(), NONE);
    }

    private static void promise29() {
        VoiceWills x = parishOf(FIVE);
        due("0 at first", x.seed(5), 0);
        due("what it was", x.seed(Integer.MAX_VALUE), 5);
        due("-1", x.seed(-1), OUTSIDE);
        due("least", x.seed(Integer.MIN_VALUE), OUTSIDE);
        due("greatest", x.seed(0), Integer.MAX_VALUE);
        x.seed(Integer.MAX_VALUE);
        x.drift(1);
        due("two draws from the greatest", x.seed(0), draw(Integer.MAX_VALUE, 5)[2]);
    }

    private static void promise30() {
        VoiceWills x = parishOf(FIVE);
        x.die(0);
        due("image 2", x.keep(2), UNKNOWN);
        due("image -1", x.keep(-1), UNKNOWN);
        due("refused: still to undo", x.told(11), 1);
        due("kept", x.keep(0), 1);
        due("nothing to undo", x.undo(), NOT);
        due("image 1 was not kept", x.goBack(1), NOT);
        x.die(1);
        due("kept anew", x.keep(0), 1);
        x.die(2);
        x.goBack(0);
        due("the later one", x.told(4), 2);
    }

    private static void promise31() {
        VoiceWills x = parishOf(FIVE);
        due("image 2", x.goBack(2), UNKNOWN);
        due("image -1", x.goBack(-1), UNKNOWN);
        due("not kept", x.goBack(0), NOT);
        x.die(0);
        x.seed(77);
        x.keep(1);
        x.will(1, 4, 3);
        x.sell(1, 2);
        x.die(3);
        x.seed(8);
        x.see(0, true);
        x.write(1, 0);
        due("back", x.goBack(1), 1);
        due("the seed too", x.seed(0), 77);
        due("nothing to undo", x.undo(), NOT);
        due("alive", x.told(5), 30);
        due("deaths", x.told(4), 1);
        due("voice", x.person(1, 0), 0);
        due("jar", x.person(1, 1), 2);
        due("A", x.person(1, 2), 2);
        due("B", x.person(1, 3), 9);
        due("what is seen stays", x.told(8), 1);
        due("the book stays", x.told(10), 1);
        x.die(1);
        due("again", x.goBack(1), 1);
        due("as kept", x.told(5), 30);
    }

    public static void main(String[] args) {
        promise1();
        promise2();
        promise3();
        promise4();
        promise5();
        promise6();
        promise7();
        promise8();
        promise9();
        promise10();
        promise11();
        promise12();
        promise13();
        promise14();
        promise15();
        promise16();
        promise17();
        promise18();
        promise19();
        promise20();
        promise21();
        promise22();
        promise23();
        promise24();
        promise25();
        promise26();
        promise27();
        promise28();
        promise29();
        promise30();
        promise31();
        System.out.println("PromiseTests: " + checks + " checks, " + wrong + " wrong");
        if (wrong != 0) {
            System.exit(1);
        }
    }
}
