/** The boundaries that section 2 names, and those of the promises 5 to 12. */
public final class FolkEdges {
    private static final int NONE = Edges.NONE, UNKNOWN = Edges.UNKNOWN, OUTSIDE = Edges.OUTSIDE, NOT = Edges.NOT;
    private static final Edges e = new Edges("FolkEdges");
    /** Numbers of no person, where there are five. */
    private static final int[] NO_FIFTH = {-1, 5, 6, 7, 9, 32, 256, Edges.LEAST, Edges.GREATEST};

    // ---- section 2

    private static void atFirst() {
        e.says("A PERSON is alive (at first), or dead; uses one VOICE, or none; has a JAR with VOICES that were put by (none at first).");
        VoiceWills x = e.parishOf(Edges.MOST);
        e.due("alive", x.told(5), 127);
        e.due("deaths", x.told(4), 0);
        e.due("who uses none", x.told(6), 8);
        for (int p = 0; p < 7; p++) {
            e.due("voice of " + p, x.person(p, 0), p == 3 ? 9 : p);
            e.due("jar of " + p, x.person(p, 1), 0);
            e.due("alive " + p, x.person(p, 5), 1);
        }
    }

    private static void firstOfTheWill() {
        e.says("the VOICE that he used goes to the first of his WILL (A, then B) who is alive");
        VoiceWills both = e.parishOf("p1;p2;p3;p9;w0 1 2;");
        e.due("both alive: A", both.die(0), 1);
        e.due("A uses it", both.person(1, 0), 0);
        e.due("B does not", both.person(2, 0), 2);
        e.due("a mute one does not", both.person(3, 0), 9);
        VoiceWills dead = e.parishOf("p1;p2;p3;p9;w0 1 2;");
        dead.die(1);
        e.due("A dead: B, ahead of the mute", dead.die(0), 2);
        VoiceWills none = e.parishOf("p1;p2;p3;p9;w0 9 2;");
        e.due("A nobody: B", none.die(0), 2);
        VoiceWills higher = e.parishOf("p1;p2;p3;p9;w0 2 1;");
        e.due("A, though B is less", higher.die(0), 2);
        VoiceWills mute = e.parishOf("p9;p1;p9;w1 2 0;");
        e.due("A is mute, not the least", mute.die(1), 2);
        VoiceWills alike = e.parishOf("p1;p2;p9;p9;w0 1 1;");
        alike.die(1);
        e.due("A and B alike and dead: the mute", alike.die(0), 3);
        VoiceWills first = e.parishOf("p1;p2;w1 0 9;");
        e.due("to the person 0", first.die(1), 0);
        VoiceWills last = e.parishOf("p1;p1;p1;p1;p1;p1;p1;w0 6 9;");
        e.due("to the person 6", last.die(0), 6);
    }

    private static void leastMute() {
        e.says("else to the least MUTE one (who uses none) alive");
        VoiceWills x = e.parishOf("p9;p1;p9;p2;p9;");
        e.due("no will: the least", x.die(1), 0);
        e.due("he uses it", x.person(0, 0), 1);
        e.due("the least who is left", x.die(3), 2);
        VoiceWills dead = e.parishOf("p9;p1;p9;");
        dead.die(0);
        e.due("the least is dead", dead.die(1), 2);
        VoiceWills both = e.parishOf("p1;p2;p3;p9;w0 1 2;");
        both.die(1);
        both.die(2);
        e.due("A's death gave the mute one a voice, so nobody is left", both.die(0), NONE);
        VoiceWills willed = e.parishOf("p1;p2;p9;p9;w0 1 9;");
        willed.die(1);
        e.due("A dead, B nobody: the least mute one", willed.die(0), 3);
        VoiceWills sold = e.parishOf("p1;p2;p3;");
        sold.sell(0, 1);
        e.due("one who sold his voice is mute then", sold.die(2), 0);
        VoiceWills self = e.parishOf("p1;p2;");
        self.sell(0, 1);
        self.sell(1, 0);
        e.due("the dying one himself is not alive", self.die(0), NONE);
        VoiceWills alone = e.parishOf("p9;p1;");
        alone.sell(1, 0);
        e.due("the mute one who got a voice, to him who has none", alone.die(0), 1);
    }

    private static void lostForGood() {
        e.says("else it is lost, for good");
        VoiceWills x = e.parishOf("p1;p2;p9;w2 1 9;");
        x.die(2);
        e.due("nobody", x.die(0), NONE);
        e.due("lost", x.told(7), 1);
        x.sell(1, 0);
        x.die(1);
        e.due("both lost", x.told(7), 3);
        e.due("nobody is left", x.told(5), 0);
        VoiceWills later = e.parishOf("p1;p2;p3;");
        later.die(0);
        later.sell(1, 2);
        e.due("a later mute one does not get it", later.person(1, 0), 9);
        e.due("still lost", later.told(7), 1);
        later.die(2);
        e.due("nor by another's death", later.person(1, 0), 1);
        e.due("only 0 and what the jar could not give are lost", later.told(7), 1 | 4);
    }

    private static void whoGetsIt() {
        e.says("Who gets it uses it from then on; what he used goes into his JAR.");
        VoiceWills x = e.parishOf("p1;p2;p9;w0 1 9;w1 2 9;");
        x.die(0);
        e.due("uses", x.person(1, 0), 0);
        e.due("jar", x.person(1, 1), 2);
        x.die(1);
        e.due("the mute uses it", x.person(2, 0), 0);
        e.due("the mute had nothing to put by, and the jar went to nobody", x.person(2, 1), 0);
        e.due("lost", x.told(7), 2);
        VoiceWills all = e.parishOf("p1;p1;p1;p1;p1;p1;p1;w0 6 9;w1 6 9;w2 6 9;w3 6 9;w4 6 9;w5 6 9;");
        for (int p = 0; p < 6; p++) {
            e.due("die(" + p + ")", all.die(p), 6);
        }
        e.due("the latest", all.person(6, 0), 5);
        e.due("six put by", all.person(6, 1), 1 | 2 | 4 | 8 | 16 | 64);
        e.due("none lost", all.told(7), 0);
        all.die(6);
        e.due("all lost", all.told(7), 127);
    }

    private static void theDeadOnesJar() {
        e.says("The dead one's JAR: its VOICES, the least first, go to the least ones alive who use none then, one each; others are lost.");
        // 0 and 1 leave to 4, who then uses 1 and has put by 0 and 4
        String text = "p1;p2;p9;p9;p5;p9;w0 4 9;w1 4 9;w4 5 9;";
        VoiceWills x = e.parishOf(text);
        x.die(0);
        x.die(1);
        e.due("jar", x.person(4, 1), 1 | 16);
        e.due("by will", x.die(4), 5);
        e.due("the heir's", x.person(5, 0), 1);
        e.due("the least to the least", x.person(2, 0), 0);
        e.due("the next to the next", x.person(3, 0), 4);
        e.due("nobody's jar grows", x.person(2, 1) | x.person(3, 1) | x.person(5, 1), 0);
        e.due("none lost", x.told(7), 0);
        // without a will the voice that he used goes first, so the least mute one is taken by it
        VoiceWills first = e.parishOf("p1;p2;p9;p9;p5;w0 4 9;w1 4 9;");
        first.die(0);
        first.die(1);
        e.due("to the least mute one", first.die(4), 2);
        e.due("the used one", first.person(2, 0), 1);
        e.due("the least of the jar", first.person(3, 0), 0);
        e.due("the other one is lost", first.told(7), 16);
        // an heir who uses a voice gets none of the jar
        VoiceWills heir = e.parishOf("p1;p2;p3;w0 1 9;w1 2 9;");
        heir.die(0);
        heir.die(1);
        e.due("the heir's jar has but his own", heir.person(2, 1), 4);
        e.due("lost", heir.told(7), 2);
        // dead mute ones get none
        VoiceWills dead = e.parishOf("p1;p2;p9;p9;p3;w0 1 9;w1 4 9;");
        dead.die(2);
        dead.die(0);
        dead.die(1);
        e.due("the one alive", dead.person(3, 0), 1);
        e.due("the dead one", dead.person(2, 0), 9);
        // a jar with the voice 0 alone, and one with the voice 6 alone
        VoiceWills zero = e.parishOf("p1;p2;p9;p9;w0 1 9;");
        zero.die(0);
        zero.putBy(1, 1);
        e.due("to the least mute one", zero.die(1), 2);
        e.due("the voice 0 to the next one", zero.person(3, 0), 0);
        VoiceWills six = e.parishOf("p1;p9;p9;p3;p3;p3;p2;w0 6 9;");
        six.die(0);
        e.due("to the least mute one", six.die(6), 1);
        e.due("the voice 6 to the next one", six.person(2, 0), 6);
        // more mute ones than voices
        VoiceWills more = e.parishOf("p1;p2;p9;p9;p9;w0 1 9;");
        more.die(0);
        more.die(1);
        e.due("used to the least", more.person(2, 0), 0);
        e.due("put by to the next", more.person(3, 0), 1);
        e.due("none for the last", more.person(4, 0), 9);
    }

    private static void theDead() {
        e.says("One who is dead uses none, his JAR is empty.");
        VoiceWills x = e.parishOf("p1;p2;p3;w0 1 2;d127;");
        x.die(0);
        x.die(1);
        e.due("voice", x.person(1, 0), 9);
        e.due("jar", x.person(1, 1), 0);
        e.due("doors", x.person(1, 4), 0);
        e.due("dead", x.person(1, 5), 0);
        e.due("he is not among those who use none", x.told(6), 0);
        e.due("his will stands", x.person(0, 2), 1);
        e.due("his will stands", x.person(0, 3), 2);
    }

    private static void sold() {
        e.says("SOLD: one gives another one the VOICE that he uses: that one uses it, what he used goes into his JAR; the seller uses the least of his own JAR (it is out of it), or none.");
        VoiceWills x = e.parishOf("p1;p2;p9;p3;w0 3 9;w1 3 9;");
        x.die(0);
        x.die(1);
        e.due("the least of two", x.sell(3, 2), 0);
        e.due("the buyer, mute till then", x.person(2, 0), 1);
        e.due("his jar is empty", x.person(2, 1), 0);
        e.due("the least is out of the jar", x.person(3, 1), 8);
        e.due("the last of the jar", x.sell(3, 2), 3);
        e.due("the buyer's jar", x.person(2, 1), 2);
        e.due("the seller's jar is empty", x.person(3, 1), 0);
        e.due("none is left", x.sell(3, 2), 9);
        e.due("the buyer's jar", x.person(2, 1), 3);
        e.due("the buyer uses", x.person(2, 0), 3);
        e.due("the seller uses none", x.told(6), 8);
        e.due("none is lost by sales", x.told(7), 0);
        VoiceWills far = e.parishOf("p1;p1;p1;p1;p1;p1;p1;");
        far.sell(0, 6);
        e.due("the last one's jar", far.person(6, 1), 64);
        e.due("the last one sells", far.sell(6, 0), 6);
        e.due("the first has his own again", far.person(0, 0), 0);
    }

    private static void putByItself() {
        e.says("PUT BY: one uses another VOICE of his JAR, the one used goes into it.");
        VoiceWills x = e.parishOf("p1;p1;p1;p1;p1;p1;p1;w0 6 9;w1 6 9;");
        x.die(0);
        x.die(1);
        e.due("the greatest", x.putBy(6, 6), 1);
        e.due("uses", x.person(6, 0), 6);
        e.due("jar", x.person(6, 1), 3);
        e.due("the least", x.putBy(6, 0), 6);
        e.due("uses", x.person(6, 0), 0);
        e.due("jar", x.person(6, 1), 66);
    }

    private static void willsAndDeaths() {
        e.says("WILL changed: A, B are others. DEATHS are counted.");
        VoiceWills x = e.parishOf("p1;p1;p1;p1;p1;p1;p1;w0 1 2;");
        x.will(0, 6, 5);
        e.due("A", x.person(0, 2), 6);
        e.due("B", x.person(0, 3), 5);
        e.due("it goes there", x.die(0), 6);
        for (int p = 1; p < 7; p++) {
            e.due("deaths", x.told(4), p);
            x.die(p);
        }
        e.due("all", x.told(4), 7);
        x.die(6);
        e.due("one who is dead is not counted again", x.told(4), 7);
        x.undo();
        e.due("undone", x.told(4), 6);
    }

    private static void open() {
        e.says("OPEN to one are DOORS that know the VOICE that he uses.");
        VoiceWills x = e.parishOf("p1;p1;p1;p1;p1;p1;p1;d0;d127;d1;d64;d63;d126;");
        e.due("of 0", x.person(0, 4), 2 | 4 | 16);
        e.due("of 6", x.person(6, 4), 2 | 8 | 32);
        e.due("of 3", x.person(3, 4), 2 | 16 | 32);
        x.sell(0, 6);
        e.due("by the voice used, not the own one", x.person(6, 4), 2 | 4 | 16);
        e.due("without a voice none", x.person(0, 4), 0);
        VoiceWills mute = e.parishOf("p9;p1;d127;");
        e.due("a door that knows the mute one's number", mute.person(0, 4), 0);
        e.due("no doors", e.parishOf("p1;").person(0, 4), 0);
        VoiceWills all = e.parishOf("p1;d1;d3;d5;d7;d9;d127;");
        e.due("all six", all.person(0, 4), 63);
    }

    // ---- promises 5 to 12

    private static void promise5() {
        e.says("0 PERSONS, 1 DOORS, 2 PARTS, 3 letters of THE TEXT, 4 DEATHS, 5 who is alive (a SET), 6 who uses no VOICE of these (a SET), 7 LOST, 8 what is SEEN, 9 what is known (HAS), 10 entries of THE BOOK, 11 how many can be undone. OUTSIDE.");
        VoiceWills x = e.parishOf(Edges.MOST);
        int[] first = {7, 6, 6, 0, 0, 127, 8, 0, 0, 0, 0, 0};
        for (int what = 0; what < first.length; what++) {
            e.due("told(" + what + ")", x.told(what), first[what]);
        }
        for (int what : new int[] {-1, 12, 13, -12, 256, Edges.LEAST, Edges.GREATEST}) {
            e.due("told(" + what + ")", x.told(what), OUTSIDE);
        }
        x.sell(4, 2);
        e.due("who uses none", x.told(6), 8 | 16);
        x.die(3);
        e.due("of these who are alive", x.told(6), 16);
        e.due("a mute one's voice is not lost, it never was", x.told(7), 0);
        x.die(0);
        x.die(6);
        e.due("who is alive", x.told(5), 127 & ~(1 | 8 | 64));
        e.due("deaths", x.told(4), 3);
        e.due("what 6 used went to 4", x.person(4, 0), 0);
        e.due("what he had put by is lost", x.told(7), 64);
        e.due("to undo", x.told(11), 4);
        for (int i = 0; i < 6; i++) {
            x.see(5, false);
            x.has(0, 9);
        }
        for (int i = 0; i < 15; i++) {
            x.write(0, 9);
        }
        e.due("seen at most", x.told(8), 6);
        e.due("known at most", x.told(9), 6);
        e.due("entries at most", x.told(10), 15);
        Edges.feedAll(x, " ".repeat(241));
        e.due("letters at most", x.told(3), 240);
        VoiceWills undone = e.parishOf("p1;p1;");
        for (int i = 0; i <= 20; i++) {
            e.due("to undo", undone.told(11), i);
            undone.will(0, 1, 9);
        }
        e.due("to undo at most", undone.told(11), 20);

        e.says("LOST: VOICES (a SET) that nobody alive uses or has in his JAR.");
        VoiceWills lost = e.parishOf("p1;p9;p1;p1;p1;p1;p1;w0 6 9;");
        lost.die(0);
        e.due("in a jar is not lost", lost.told(7), 0);
        lost.die(1);
        lost.die(2);
        e.due("lost", lost.told(7), 4);
        lost.die(6);
        e.due("with all of his jar", lost.told(7), 1 | 4 | 64);
        lost.die(3);
        lost.die(4);
        lost.die(5);
        e.due("all but the mute one's", lost.told(7), 125);
    }

    private static void promise6() {
        e.says("Of a PERSON: what = 0 the VOICE used (9), 1 the JAR (a SET of VOICES), 2 A, 3 B (9), 4 DOORS that are OPEN (a SET), 5 1 alive, 0 dead. UNKNOWN, OUTSIDE.");
        VoiceWills x = e.parishOf(Edges.FIVE);
        for (int p : NO_FIFTH) {
            e.due("person(" + p + ", 0)", x.person(p, 0), UNKNOWN);
            e.due("person(" + p + ", 6)", x.person(p, 6), UNKNOWN);
        }
        for (int what : new int[] {-1, 6, 7, Edges.LEAST, Edges.GREATEST}) {
            e.due("person(0, " + what + ")", x.person(0, what), OUTSIDE);
            e.due("person(4, " + what + ")", x.person(4, what), OUTSIDE);
        }
        int[][] due = {{0, 0, 1, 3, 11, 1}, {1, 0, 2, 9, 13, 1}, {9, 0, 9, 9, 0, 1}, {3, 0, 9, 4, 10, 1}, {4, 0, 9, 9, 12, 1}};
        for (int p = 0; p < due.length; p++) {
            for (int what = 0; what < 6; what++) {
                e.due("person(" + p + ", " + what + ")", x.person(p, what), due[p][what]);
            }
        }
        x.die(0);
        int[] dead = {9, 0, 1, 3, 0, 0};
        for (int what = 0; what < 6; what++) {
            e.due("dead: person(0, " + what + ")", x.person(0, what), dead[what]);
        }
        e.due("the dead one, what 6", x.person(0, 6), OUTSIDE);
    }

    private static void promise7() {
        e.says("RANGE of a VOICE (9: there is none of that PERSON). UNKNOWN.");
        VoiceWills x = e.parishOf(Edges.FIVE);
        e.due("the first", x.range(0), 2);
        e.due("the last", x.range(4), 5);
        e.due("of the mute", x.range(2), 9);
        for (int v : NO_FIFTH) {
            e.due("range(" + v + ")", x.range(v), UNKNOWN);
        }
        x.sell(0, 2);
        e.due("of the mute who uses one", x.range(2), 9);
        e.due("of a voice that was sold", x.range(0), 2);
        x.die(2);
        x.die(0);
        e.due("of a dead one's", x.range(0), 2);
        VoiceWills most = e.parishOf(Edges.MOST);
        e.due("the seventh", most.range(6), 7);
        e.due("the eighth", most.range(7), UNKNOWN);
    }

    private static void promise8() {
        e.says("VOICES that a DOOR knows. UNKNOWN.");
        VoiceWills x = e.parishOf(Edges.FIVE);
        e.due("the first", x.door(0), 3);
        e.due("the last, with voices that there are not", x.door(3), 127);
        for (int d : new int[] {-1, 4, 5, 6, 9, Edges.LEAST, Edges.GREATEST}) {
            e.due("door(" + d + ")", x.door(d), UNKNOWN);
        }
        VoiceWills most = e.parishOf(Edges.MOST);
        e.due("the sixth", most.door(5), 72);
        e.due("the seventh", most.door(6), UNKNOWN);
        e.due("one that knows none", most.door(3), 0);
        e.due("no doors", e.parishOf("p1;").door(0), UNKNOWN);
    }

    private static void promise9() {
        e.says("One DIES: who got the VOICE that he used (NONE). UNKNOWN, NOT: he is dead.");
        VoiceWills x = e.parishOf(Edges.FIVE);
        for (int p : NO_FIFTH) {
            e.due("die(" + p + ")", x.die(p), UNKNOWN);
        }
        e.due("the mute: he used none", x.die(2), NONE);
        e.due("the mute again", x.die(2), NOT);
        e.due("the first", x.die(0), 1);
        e.due("again", x.die(0), NOT);
        e.due("his heir's heir is dead, no mute one: nobody", x.die(1), NONE);
        e.due("the last to be alive ahead of one", x.die(3), 4);
        e.due("the last of all", x.die(4), NONE);
        e.due("nobody is alive", x.told(5), 0);
        e.due("again", x.die(4), NOT);
        VoiceWills jar = e.parishOf("p9;p1;p2;w1 2 9;w2 1 9;");
        jar.die(1);
        jar.sell(2, 0);
        e.due("who got the one used, not the jar's", jar.die(0), NONE);
        VoiceWills none = e.parishOf("p1;p9;w0 1 9;w1 0 9;");
        none.sell(0, 1);
        e.due("he used none, though he has an heir", none.die(0), NONE);
        e.due("the heir has what he had", none.person(1, 0), 0);
    }

    private static void promise10() {
        e.says("SOLD to another one: the VOICE that the seller uses then (9). UNKNOWN, NOT: one is dead, he uses none.");
        VoiceWills x = e.parishOf(Edges.FIVE);
        for (int p : NO_FIFTH) {
            e.due("sell(" + p + ", 0)", x.sell(p, 0), UNKNOWN);
            e.due("sell(0, " + p + ")", x.sell(0, p), UNKNOWN);
            e.due("sell(" + p + ", " + p + ")", x.sell(p, p), UNKNOWN);
        }
        for (int p = 0; p < 5; p++) {
            e.due("to himself: sell(" + p + ", " + p + ")", x.sell(p, p), UNKNOWN);
        }
        e.due("the mute one sells", x.sell(2, 0), NOT);
        e.due("the buyer may use none", x.sell(0, 2), 9);
        e.due("he uses none now", x.sell(0, 2), NOT);
        x.die(3);
        e.due("the seller is dead", x.sell(3, 1), NOT);
        e.due("the buyer is dead", x.sell(1, 3), NOT);
        x.die(4);
        e.due("both are dead", x.sell(3, 4), NOT);
        e.due("dead, to himself", x.sell(3, 3), UNKNOWN);
        e.due("dead, to nobody", x.sell(3, 5), UNKNOWN);
        e.due("nobody, to a dead one", x.sell(5, 3), UNKNOWN);
    }

    private static void promise11() {
        e.says("PUT BY for a VOICE of his JAR: the one that he used (9). UNKNOWN (VOICES 0 .. 6), NOT: he is dead, it is not there.");
        VoiceWills x = e.parishOf(Edges.FIVE);
        for (int p : NO_FIFTH) {
            e.due("putBy(" + p + ", 0)", x.putBy(p, 0), UNKNOWN);
        }
        for (int v : new int[] {-1, 7, 8, 9, 10, 32, Edges.LEAST, Edges.GREATEST}) {
            e.due("putBy(0, " + v + ")", x.putBy(0, v), UNKNOWN);
        }
        for (int v = 0; v <= 6; v++) {
            e.due("an empty jar: putBy(0, " + v + ")", x.putBy(0, v), NOT);
        }
        x.die(0);
        e.due("the one that he uses", x.putBy(1, 0), NOT);
        e.due("one of the jar", x.putBy(1, 1), 0);
        e.due("back", x.putBy(1, 0), 1);
        e.due("of no person", x.putBy(1, 5), NOT);
        e.due("of no person", x.putBy(1, 6), NOT);
        e.due("of the mute one", x.putBy(1, 2), NOT);
        e.due("he is dead", x.putBy(0, 0), NOT);
        e.due("dead, no voice", x.putBy(0, 7), UNKNOWN);
        e.due("a mute one", x.putBy(2, 2), NOT);
    }

    private static void promise12() {
        e.says("WILL changed (PERSONS, or 9): 10 times A and B as they were. UNKNOWN (A, B like P, too), NOT: he is dead.");
        VoiceWills x = e.parishOf(Edges.MOST);
        e.due("as told", x.will(0, 9, 9), 65);
        e.due("nobody", x.will(0, 1, 9), 99);
        e.due("A alone", x.will(0, 9, 1), 19);
        e.due("B alone", x.will(0, 6, 6), 91);
        e.due("the seventh", x.will(0, 6, 6), 66);
        e.due("untold", x.will(6, 0, 0), 99);
        e.due("to 0", x.will(6, 0, 9), 0);
        for (int a : new int[] {-1, 7, 8, 10, 19, Edges.LEAST, Edges.GREATEST}) {
            e.due("will(0, " + a + ", 9)", x.will(0, a, 9), UNKNOWN);
            e.due("will(0, 9, " + a + ")", x.will(0, 9, a), UNKNOWN);
            e.due("will(" + a + ", 9, 9)", x.will(a, 9, 9), UNKNOWN);
        }
        e.due("will(9, 9, 9)", x.will(9, 9, 9), UNKNOWN);
        for (int p = 0; p < 7; p++) {
            e.due("A like P", x.will(p, p, 9), UNKNOWN);
            e.due("B like P", x.will(p, 9, p), UNKNOWN);
        }
        x.die(1);
        e.due("to a dead one", x.will(0, 1, 1), 66);
        e.due("he is dead", x.will(1, 0, 2), NOT);
        e.due("he is dead, the same will", x.will(1, 9, 9), NOT);
        e.due("he is dead, to himself", x.will(1, 1, 9), UNKNOWN);
        e.due("he is dead, to no person", x.will(1, 9, 7), UNKNOWN);
        VoiceWills two = e.parishOf("p1;p1;");
        e.due("where there are but two", two.will(0, 2, 9), UNKNOWN);
        e.due("the other one", two.will(0, 1, 9), 99);
    }

    public static void main(String[] args) {
        atFirst();
        firstOfTheWill();
        leastMute();
        lostForGood();
        whoGetsIt();
        theDeadOnesJar();
        theDead();
        sold();
        putByItself();
        willsAndDeaths();
        open();
        promise5();
        promise6();
        promise7();
        promise8();
        promise9();
        promise10();
        promise11();
        promise12();
        e.end();
    }
}
