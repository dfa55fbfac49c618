/** The boundaries that section 1 names, and those of the promises 1 to 4. */
public final class TextEdges {
    private static final int NONE = Edges.NONE, UNKNOWN = Edges.UNKNOWN, OUTSIDE = Edges.OUTSIDE, NOT = Edges.NOT, FULL = Edges.FULL;
    private static final Edges e = new Edges("TextEdges");

    private static String blanks(int n) {
        return " ".repeat(n);
    }

    // ---- section 1

    private static void lengthOfTheText() {
        e.says("THE PARISH is told in a text (240 letters at most)");
        String longest = "p3;" + blanks(234) + "p4;";
        e.sound(longest, 2);
        e.sound(blanks(240), 0);
        e.sound("p3;" + blanks(237), 1);
        // the 241st letter is not taken, so the text ends ahead of it
        e.faulty("p3;" + blanks(235) + "p4;", 1, 240);
        e.faulty(blanks(239) + "p4;", 1, 240);
        e.faulty(blanks(240 - 1) + "x", 1, 239);
        e.sound(blanks(240) + "x", 0);
    }

    private static void sevenPersons() {
        e.says("'p' R ';' (7 PERSONS at most: VOICE of the same number, of RANGE R, 0 .. 8; R 9: MUTE, without a VOICE)");
        e.sound(Edges.times("p1;", 6), 6);
        e.sound(Edges.times("p1;", 7), 7);
        e.faulty(Edges.times("p1;", 8), 3, 21);
        e.faulty(Edges.times("p9;", 8), 3, 21);
        VoiceWills x = e.parishOf("p0;p8;p9;");
        e.due("range 0", x.range(0), 0);
        e.due("range 8", x.range(1), 8);
        e.due("range of the mute", x.range(2), 9);
        e.due("voice of the same number", x.person(0, 0), 0);
        e.due("voice of the same number", x.person(1, 0), 1);
        e.due("the mute is without", x.person(2, 0), 9);
        e.due("who uses none", x.told(6), 4);
        e.faulty("p10;", 2, 1);
        VoiceWills most = e.parishOf(Edges.MOST);
        e.due("the seventh", most.person(6, 0), 6);
        e.due("range of the seventh", most.range(6), 7);
        for (int r = 0; r <= 9; r++) {
            e.due("range " + r, e.parishOf("p" + r + ";").range(0), r);
        }
    }

    private static void wills() {
        e.says("'w' P A B ';' (WILL of PERSON P: to A, else to B, 9 for nobody, unlike P, told ahead as P is; each P once; 9 9 untold)");
        VoiceWills x = e.parishOf("p1;p2;p3;w0 1 2;w1 9 0;w2 0 9;");
        int[][] heirs = {{1, 2}, {9, 0}, {0, 9}};
        for (int p = 0; p < heirs.length; p++) {
            e.due("A of " + p, x.person(p, 2), heirs[p][0]);
            e.due("B of " + p, x.person(p, 3), heirs[p][1]);
        }
        VoiceWills untold = e.parishOf("p1;p2;w1 0 9;");
        e.due("A untold", untold.person(0, 2), 9);
        e.due("B untold", untold.person(0, 3), 9);
        VoiceWills nobody = e.parishOf("p1;p2;w0 9 9;");
        e.due("A nobody", nobody.person(0, 2), 9);
        e.due("B nobody", nobody.person(0, 3), 9);
        VoiceWills seven = e.parishOf("p1;p1;p1;p1;p1;p1;p1;w6 5 0;w0 6 5;");
        e.due("A of the last", seven.person(6, 2), 5);
        e.due("B of the last", seven.person(6, 3), 0);
        e.due("the last as A", seven.person(0, 2), 6);
        // each once: a will that was told as 9 9 is told all the same
        e.faulty("p1;w0 9 9;w0 9 9;", 4, 11);
        e.faulty("p1;p1;w0 1 9;w1 0 9;w0 1 9;", 4, 21);
        // ahead: P, A, B must all have been told when the will is
        e.faulty("w0 9 9;p1;", 2, 1);
        e.faulty("p1;w0 1 9;p1;", 2, 6);
        e.faulty("p1;w0 9 1;p1;", 2, 8);
        e.sound("p1;p1;w0 1 1;", 2);
    }

    private static void doors() {
        e.says("'d' V ';' (6 DOORS at most: know VOICES V, 0 .. 127, a SET)");
        VoiceWills x = e.parishOf("d0;d127;d1;d64;d5;d100;");
        int[] known = {0, 127, 1, 64, 5, 100};
        for (int d = 0; d < known.length; d++) {
            e.due("door(" + d + ")", x.door(d), known[d]);
        }
        e.due("six", x.told(1), 6);
        e.due("seventh", x.door(6), UNKNOWN);
        e.sound(Edges.times("d1;", 5), 0);
        e.faulty(Edges.times("d1;", 7), 3, 18);
        e.faulty("d128;", 2, 1);
        e.faulty("d999;", 2, 1);
    }

    private static void parts() {
        e.says("'c' R {',' R} ';' (PARTS of a choir: 1 to 6 RANGES, 0 .. 8; once)");
        e.due("without a choir", e.parishOf("p1;").told(2), 0);
        String text = "c0";
        for (int n = 1; n <= 6; n++) {
            e.due("parts of " + text, e.parishOf(text + ";").told(2), n);
            text += "," + (n == 5 ? 8 : n);
        }
        e.faulty(text + ";", 1, 12);
        e.faulty("c;", 1, 1);
        e.faulty("c9;", 2, 1);
        e.faulty("c0,9;", 2, 3);
        e.faulty("c0,1,2,3,4,9;", 2, 11);
        e.faulty("c1;c1;", 3, 3);
    }

    private static void numbers() {
        e.says("NUMBERS have one to three figures");
        e.sound("p8;p08;p008;", 3);
        e.sound("d127;d007;d07;", 0);
        e.sound("p1;p1;w000 001 009;", 2);
        e.sound("c008,000;", 0);
        e.faulty("p0008;", 2, 1);
        e.faulty("d0000;", 2, 1);
        e.faulty("c0000;", 2, 1);
        e.faulty("c0,0000;", 2, 3);
        e.faulty("p1;w0000 9 9;", 2, 4);
        e.faulty("p1;w0 0009 9;", 2, 6);
        e.faulty("p1;w0 9 0009;", 2, 8);
        // a number without a figure
        e.faulty("p;", 1, 1);
        e.faulty("d;", 1, 1);
        e.faulty("p1;w;", 1, 4);
        e.faulty("p1;w0;", 1, 5);
        e.faulty("p1;w0 9;", 1, 7);
        // what would wrap around is a number of many figures
        e.faulty("p4294967296;", 2, 1);
        e.faulty("p" + "0".repeat(238) + ";", 2, 1);
        e.faulty("d" + "9".repeat(239), 2, 1);
    }

    private static void wordsAreOneLetter() {
        e.says("a word is one letter");
        e.faulty("pp1;", 1, 1);
        e.faulty("pw1;", 1, 1);
        e.faulty("p1;;", 1, 3);
        e.faulty("p1;w w0 9 9;", 1, 5);
        e.faulty("c1,,1;", 1, 3);
        e.faulty("dd1;", 1, 1);
    }

    private static void blanksBetween() {
        e.says("blanks (32) may stand anywhere but within NUMBERS");
        e.sound(" p 1 ; p  2  ;   w  0   1   9  ;  d  3 ; c 1 , 2 ,  3  ; ", 2);
        VoiceWills x = e.parishOf(" p 8 ; p 9 ; w 0 1 9 ; d 3 ; c 1 , 2 ; ");
        e.due("range", x.range(0), 8);
        e.due("A", x.person(0, 2), 1);
        e.due("door", x.door(0), 3);
        e.due("parts", x.told(2), 2);
        e.faulty("d1 2;", 1, 3);
        e.faulty("p0 0;", 1, 3);
        e.faulty("c1 2;", 1, 3);
        // letters that look like blanks, but are not the letter 32
        for (int letter : new int[] {0, 9, 10, 11, 12, 13, 31, 160, 255}) {
            e.faulty((char) letter + "p1;", 1, 0);
            e.faulty("p" + (char) letter + "1;", 1, 1);
            e.faulty("p1" + (char) letter + ";", 1, 2);
            e.faulty("p1;" + (char) letter, 1, 3);
        }
    }

    private static void blankBetweenNumbers() {
        e.says("two NUMBERS side by side need one");
        e.sound("p1;p2;w0 1 9;", 2);
        e.sound("p1;p2;w 0  1   9 ;", 2);
        // 'w01 9;': 01 is P, 9 is A, there is no B
        e.faulty("p1;p2;w01 9;", 1, 11);
        e.faulty("p1;p2;w0 19;", 2, 9);
        e.faulty("p1;p2;w019;", 2, 7);
        e.faulty("p1;p2;w0,1 9;", 1, 8);
    }

    private static void firstFault() {
        e.says("FAULTS, at the first letter that has one (the end at the text's length), of these the least");
        e.faulty("p", 1, 1);
        e.faulty("p   ", 1, 4);
        e.faulty("p1", 1, 2);
        e.faulty("p1  ", 1, 4);
        e.faulty("w", 1, 1);
        e.faulty("p1;w0", 1, 5);
        e.faulty("p1;w0 ", 1, 6);
        e.faulty("p1;w0 9", 1, 7);
        e.faulty("p1;w0 9 9", 1, 9);
        e.faulty("d", 1, 1);
        e.faulty("d127", 1, 4);
        e.faulty("c", 1, 1);
        e.faulty("c1", 1, 2);
        e.faulty("c1,", 1, 3);
        e.faulty("c1,2,3,4,5,6", 1, 12);
        // the first of two faults
        e.faulty("p10;x", 2, 1);
        e.faulty("x;p10;", 1, 0);
        e.faulty("p10", 2, 1);
        e.faulty("p10x", 2, 1);
        e.faulty("c1;c", 3, 3);
        e.faulty("c1;cx", 3, 3);
        e.faulty(Edges.times("p1;", 7) + "p10;", 3, 21);
        e.faulty(Edges.times("d1;", 6) + "d128;", 3, 18);
        e.faulty("c1,1,1,1,1,1,9;", 1, 12);
        e.faulty("c1,1,1,1,1,9,1;", 2, 11);
        e.faulty("p1;w0 0 8;", 4, 6);
        e.faulty("p1;w0 8 0;", 2, 6);
        e.faulty("p1;w0 9 9;w0 8 8;", 4, 11);
        // two faults at one letter: the least
        e.faulty("1234;", 1, 0);
        e.faulty("p1 1234;", 1, 3);
        e.faulty("p1;w0 9 9;w0000 9 9;", 2, 11);
        e.faulty("p1;w0 0000 9;", 2, 6);
        e.faulty("p1;w0 9 0000;", 2, 8);
    }

    private static void faultOne() {
        e.says("1 it cannot stand there (a letter that is no word; a seventh R: at its ',')");
        for (int letter = 0; letter <= 255; letter++) {
            char c = (char) letter;
            boolean begins = c == 'p' || c == 'w' || c == 'd' || c == 'c';
            if (c == ' ') {
                continue;
            }
            // where a clause begins; a clause that begins lacks its number at the end
            e.faulty("p1;" + c, 1, begins ? 4 : 3);
            boolean figure = c >= '0' && c <= '9';
            // where a number stands
            if (!figure) {
                e.faulty("p" + c, 1, 1);
                e.faulty("c1," + c, 1, 3);
                e.faulty("p1;w0 " + c, 1, 6);
            }
            // behind a whole number
            if (c != ';' && !figure) {
                e.faulty("p1" + c + "x", 1, 2);
                e.faulty("d1" + c + "x", 1, 2);
                e.faulty("p1;w0 9 9" + c + "x", 1, 9);
                if (c != ',') {
                    e.faulty("c1" + c + "x", 1, 2);
                }
            }
        }
        e.faulty("c1,1,1,1,1,1,1;", 1, 12);
        e.faulty("c1,1,1,1,1,1,", 1, 12);
        e.faulty("c1,1,1,1,1,1 , 1;", 1, 13);
        e.sound("c1,1,1,1,1,1;", 0);
    }

    private static void faultTwo() {
        e.says("2 a NUMBER of four figures or more, or out of its bounds; a PERSON that was not told yet (at its first)");
        e.faulty("p 1000;", 2, 2);
        e.faulty("p 10;", 2, 2);
        e.faulty("p 999;", 2, 2);
        e.faulty("d  0127;", 2, 3);
        e.faulty("d  128;", 2, 3);
        e.faulty("c 9;", 2, 2);
        e.faulty("c 8 , 10;", 2, 6);
        e.faulty("w0 9 9;", 2, 1);
        e.faulty("p1;w1 0 9;", 2, 4);
        e.faulty("p1;w 01 0 9;", 2, 5);
        e.faulty("p1;w9 0 9;", 2, 4);
        e.faulty("p1;w0 7 9;", 2, 6);
        e.faulty("p1;w0 8 9;", 2, 6);
        e.faulty("p1;w0 10 9;", 2, 6);
        e.faulty("p1;w0  001 9;", 2, 7);
        e.faulty("p1;w0 9 1;", 2, 8);
        e.faulty("p1;w0 9 10;", 2, 8);
        e.faulty(Edges.times("p1;", 7) + "w7 9 9;", 2, 22);
        e.faulty(Edges.times("p1;", 7) + "w6 7 9;", 2, 24);
        e.faulty(Edges.times("p1;", 7) + "w6 9 7;", 2, 26);
        e.faulty(Edges.times("p1;", 7) + "w6 8 9;", 2, 24);
        e.sound(Edges.times("p1;", 7) + "w6 5 9;", 7);
    }

    private static void faultThree() {
        e.says("3 an eighth 'p', a seventh 'd', 'c' again (at it)");
        e.faulty(Edges.times("p1;", 7) + "  p1;", 3, 23);
        e.faulty(Edges.times("p1;", 7) + "p", 3, 21);
        e.faulty(Edges.times("d1;", 6) + " d1;", 3, 19);
        e.faulty(Edges.times("d1;", 6) + "d", 3, 18);
        e.faulty("c1; c", 3, 4);
        e.faulty("c1,2,3;p1;d1;c1;", 3, 13);
        e.sound(Edges.times("d1;", 6) + Edges.times("p1;", 7) + "c1;", 7);
    }

    private static void faultFour() {
        e.says("4 P has a WILL already (at it); A, B like P (at it)");
        e.faulty("p1;p1;w1 0 9; w1 9 0;", 4, 15);
        e.faulty("p1;w0 9 9;w 000 9 9;", 4, 12);
        e.faulty("p1;w0 9 9;w0", 4, 11);
        e.faulty("p1;w0 0 9;", 4, 6);
        e.faulty("p1;w0 00 9;", 4, 6);
        e.faulty("p1;w0 9 0;", 4, 8);
        e.faulty("p1;w0 9  000;", 4, 9);
        e.faulty("p1;p1;w1 1 0;", 4, 9);
        e.faulty("p1;p1;w1 0 1;", 4, 11);
        e.faulty(Edges.times("p1;", 7) + "w6 6 9;", 4, 24);
        e.faulty(Edges.times("p1;", 7) + "w6 9 9;w6 9 9;", 4, 29);
        e.sound("p1;p1;w0 1 9;w1 0 9;", 2);
    }

    private static void emptyText() {
        e.says("An empty text: nobody");
        e.sound("", 0);
        VoiceWills x = e.parishOf(Edges.MOST);
        e.due("an empty text", x.parish(), 0);
        e.due("persons", x.told(0), 0);
        e.due("doors", x.told(1), 0);
        e.due("parts", x.told(2), 0);
        e.due("alive", x.told(5), 0);
        e.due("lost", x.told(7), 0);
        e.due("person 0", x.person(0, 0), UNKNOWN);
        e.due("fault", x.fault(), NONE);
    }

    // ---- promises 1 to 4

    private static void promise1() {
        e.says("`VoiceWills()`: Nobody.");
        VoiceWills x = new VoiceWills();
        for (int what = 0; what <= 11; what++) {
            e.due("told(" + what + ")", x.told(what), 0);
        }
        e.due("fault()", x.fault(), NONE);
        e.due("person(0, 0)", x.person(0, 0), UNKNOWN);
        e.due("range(0)", x.range(0), UNKNOWN);
        e.due("door(0)", x.door(0), UNKNOWN);
        e.due("die(0)", x.die(0), UNKNOWN);
        e.due("sell(0, 1)", x.sell(0, 1), UNKNOWN);
        e.due("putBy(0, 0)", x.putBy(0, 0), UNKNOWN);
        e.due("will(0, 9, 9)", x.will(0, 9, 9), UNKNOWN);
        e.due("drift(1)", x.drift(1), NOT);
        e.due("undo()", x.undo(), NOT);
        e.due("after(1, 0)", x.after(1, 0), UNKNOWN);
        e.due("whose(1, 0)", x.whose(1, 0), OUTSIDE);
        e.due("wills(1, 0, 0, 0)", x.wills(1, 0, 0, 0), UNKNOWN);
        e.due("sing(NONE)", x.sing(NONE), 0);
        e.due("sing(0)", x.sing(0), UNKNOWN);
        e.due("bid(0, 1)", x.bid(0, 1), UNKNOWN);
        e.due("live(0, 60, 100)", x.live(0, 60, 100), 1000000000);
        e.due("live(1, 1, 1)", x.live(1, 1, 1), UNKNOWN);
        e.due("see(0, true)", x.see(0, true), UNKNOWN);
        e.due("spoke(0)", x.spoke(0), 0);
        e.due("spoke(1)", x.spoke(1), 0);
        e.due("knock()", x.knock(), NONE);
        e.due("has(0, 9)", x.has(0, 9), UNKNOWN);
        e.due("orders(0, NONE)", x.orders(0, NONE), 1);
        e.due("orders(1, NONE)", x.orders(1, NONE), UNKNOWN);
        e.due("write(0, 9)", x.write(0, 9), UNKNOWN);
        e.due("tear()", x.tear(), 0);
        e.due("judge()", x.judge(), NONE);
        e.due("goBack(0)", x.goBack(0), NOT);
        e.due("goBack(1)", x.goBack(1), NOT);
        e.due("seed(1)", x.seed(1), 0);
        e.due("keep(0)", x.keep(0), 1);
        e.due("goBack(0)", x.goBack(0), 1);
    }

    private static void promise2() {
        e.says("One letter (a number 0 .. 255) comes behind THE TEXT: how many it has. OUTSIDE, FULL (240).");
        VoiceWills x = new VoiceWills();
        for (int letter : new int[] {-1, 256, -32, 256 + 'p', Edges.LEAST, Edges.GREATEST}) {
            e.due("feed(" + letter + ")", x.feed(letter), OUTSIDE);
        }
        e.due("none of these came", x.told(3), 0);
        for (int letter = 0; letter < 240; letter++) {
            e.due("feed(" + letter + ")", x.feed(letter), letter + 1);
        }
        e.due("the 241st", x.feed('p'), FULL);
        e.due("the 241st again", x.feed(0), FULL);
        e.due("the 241st, which is none", x.feed(256), OUTSIDE);
        e.due("the 241st, which is none", x.feed(-1), OUTSIDE);
        e.due("letters", x.told(3), 240);
        VoiceWills high = new VoiceWills();
        for (int letter = 240; letter <= 255; letter++) {
            e.due("feed(" + letter + ")", high.feed(letter), letter - 239);
        }
        VoiceWills full = new VoiceWills();
        Edges.feedAll(full, blanks(237) + "p4;");
        e.due("full", full.feed('x'), FULL);
        e.due("what was full is read", full.parish(), 1);
        e.due("a new text begins", full.feed('p'), 1);
    }

    private static void promise3() {
        e.says("THE TEXT (it is empty then, with a FAULT, too) becomes THE PARISH");
        VoiceWills x = e.parishOf("p1;");
        e.due("letters behind a sound text", x.told(3), 0);
        Edges.feedAll(x, "p1");
        e.due("letters", x.told(3), 2);
        e.due("a fault", x.parish(), -11);
        e.due("letters behind a fault", x.told(3), 0);
        e.due("nothing of the faulty text is left", Edges.tell(x, "p1;p2;"), 2);
        e.due("nothing of the sound text is left", Edges.tell(x, "p1;"), 1);

        String[] longer = {"p1 ;p9; ", "p1 1;", "p11;", "p1;;", blanks(240)};
        for (String each : longer) {
            VoiceWills shorter = new VoiceWills();
            Edges.tell(shorter, each);
            e.due("a shorter text behind \"" + each + "\" ends where it ends", Edges.tell(shorter, "p1"), -11);
            e.due("its end behind \"" + each + "\"", shorter.fault(), 2);
            Edges.tell(shorter, each);
            e.due("a shorter number behind \"" + each + "\"", Edges.tell(shorter, "p"), -11);
            e.due("its end behind \"" + each + "\"", shorter.fault(), 1);
        }
        VoiceWills again = new VoiceWills();
        for (int i = 0; i < 4; i++) {
            e.due("a fault behind all else", Edges.tell(again, "p1;p2;w0 1 9;d5;c1,2;x"), -11);
            e.due("its letter", again.fault(), 21);
        }
        e.due("nothing of these: wills and a choir may be told", Edges.tell(again, "p3;p3;p3;w0 2 1;c1;"), 3);
        e.due("nothing of these: no doors", again.told(1), 0);
        e.due("nothing of these: one part", again.told(2), 1);
        e.due("nothing of these: A", again.person(0, 2), 2);
        for (int i = 0; i < 4; i++) {
            e.due("sound ones in a row", Edges.tell(again, "p3;p3;w" + i % 2 + " 9 9;d7;c1;"), 2);
            e.due("doors", again.told(1), 1);
            e.due("parts", again.told(2), 1);
        }
        for (int i = 0; i < 3; i++) {
            e.due("without doors and parts", Edges.tell(again, "p4;p4;"), 2);
            e.due("no doors", again.told(1), 0);
            e.due("no parts", again.told(2), 0);
            e.due("no will", again.person(1, 2), 9);
        }

        e.says("(all alive, no JARS; nothing SEEN, known, no BOOK; IMAGES, what could be undone are gone; THE SEED stays)");
        VoiceWills y = lively();
        y.seed(2147483647);
        Edges.feedAll(y, "p4;p9;w0 1 9;");
        e.due("persons", y.parish(), 2);
        int[] told = {2, 0, 0, 0, 0, 3, 2, 0, 0, 0, 0, 0};
        for (int what = 0; what < told.length; what++) {
            e.due("told(" + what + ")", y.told(what), told[what]);
        }
        int[][] persons = {{0, 0, 1, 9, 0, 1}, {9, 0, 9, 9, 0, 1}};
        for (int p = 0; p < persons.length; p++) {
            for (int what = 0; what < 6; what++) {
                e.due("person(" + p + ", " + what + ")", y.person(p, what), persons[p][what]);
            }
        }
        e.due("nothing seen", y.spoke(0), 1);
        e.due("nothing known", y.orders(0, NONE), 1);
        e.due("no book", y.judge(), NONE);
        e.due("nothing undone", y.undo(), NOT);
        e.due("image 0", y.goBack(0), NOT);
        e.due("image 1", y.goBack(1), NOT);
        e.due("seed", y.seed(0), 2147483647);
        VoiceWills none = lively();
        e.due("by an empty text, too", none.parish(), 0);
        e.due("nothing undone", none.undo(), NOT);
        e.due("image 0", none.goBack(0), NOT);
        e.due("seed", none.seed(0), 77);
        e.due("seen, known, book", none.tear(), 0);

        e.says("how many PERSONS; -10 less the number of its FAULT (all else is as it was)");
        String[] faults = {"px", "p10;", "c1;c", "p1;w0 0 9;"};
        for (int kind = 1; kind <= 4; kind++) {
            VoiceWills z = lively();
            e.due("parish of " + faults[kind - 1], Edges.tell(z, faults[kind - 1]), -10 - kind);
            e.due("persons", z.told(0), 5);
            e.due("doors", z.told(1), 4);
            e.due("parts", z.told(2), 3);
            e.due("deaths", z.told(4), 2);
            e.due("alive", z.told(5), 22);
            e.due("seen", z.told(8), 2);
            e.due("known", z.told(9), 1);
            e.due("book", z.told(10), 2);
            e.due("to undo", z.told(11), 2);
            e.due("door", z.door(2), 18);
            e.due("range", z.range(1), 5);
            e.due("A of 3", z.person(3, 2), 9);
            e.due("B of 3", z.person(3, 3), 4);
            e.due("seed", z.seed(77), 77);
            e.due("undo", z.undo(), 1);
            e.due("undo", z.undo(), 0);
            e.due("alive then", z.told(5), 30);
            e.due("image 0", z.goBack(0), 1);
            e.due("alive in it", z.told(5), 31);
            e.due("image 1", z.goBack(1), 1);
            e.due("alive in it", z.told(5), 30);
        }
        for (int n = 0; n <= 7; n++) {
            e.due(n + " persons", Edges.tell(new VoiceWills(), Edges.times("p9;", n)), n);
        }
    }

    /** A parish in which all that can be has been: two deaths, things seen, known, written, kept, to undo; seed 77. */
    private static VoiceWills lively() {
        VoiceWills x = e.parishOf(Edges.FIVE);
        x.keep(0);
        x.die(0);
        x.keep(1);
        x.die(3);
        x.will(4, 1, 2);
        x.see(0, true);
        x.see(3, true);
        x.has(2, 0);
        x.write(1, 0);
        x.write(0, 0);
        x.seed(77);
        return x;
    }

    private static void promise4() {
        e.says("The letter of the FAULT of the latest parish(); NONE.");
        VoiceWills x = new VoiceWills();
        e.due("ahead of any", x.fault(), NONE);
        Edges.feedAll(x, "x");
        e.due("not read yet", x.fault(), NONE);
        x.parish();
        e.due("the first letter", x.fault(), 0);
        Edges.feedAll(x, "p1;p2");
        e.due("still the latest", x.fault(), 0);
        x.parish();
        e.due("at the end", x.fault(), 5);
        x.die(0);
        x.feed(256);
        e.due("other calls leave it", x.fault(), 5);
        x.parish();
        e.due("a sound one", x.fault(), NONE);
        Edges.feedAll(x, blanks(240));
        x.parish();
        e.due("a full sound one", x.fault(), NONE);
        Edges.feedAll(x, blanks(239) + "p");
        e.due("a full one with a fault", x.parish(), -11);
        e.due("the end of a full text", x.fault(), 240);
    }

    public static void main(String[] args) {
        lengthOfTheText();
        sevenPersons();
        wills();
        doors();
        parts();
        numbers();
        wordsAreOneLetter();
        blanksBetween();
        blankBetweenNumbers();
        firstFault();
        faultOne();
        faultTwo();
        faultThree();
        faultFour();
        emptyText();
        promise1();
        promise2();
        promise3();
        promise4();
        e.end();
    }
}
