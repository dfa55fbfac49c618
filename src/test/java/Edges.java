import java.io.IOException;
import java.nio.file.Files;
import java.nio.file.Path;
import java.util.TreeSet;

/**
 * What the tests of the document's sentences share. Each sentence that names a boundary is told to says() in the
 * document's own words, and the checks behind it would fail if that sentence were broken.
 */
final class Edges {
    static final int NONE = -1, UNKNOWN = -1000000001, OUTSIDE = -1000000002, NOT = -1000000003, FULL = -1000000004;
    static final int LEAST = Integer.MIN_VALUE, GREATEST = Integer.MAX_VALUE;
    /** Five persons (2 is mute), four doors, three parts. */
    static final String FIVE = "p2;p5;p9;p7;p5;w0 1 3;w1 2 9;w3 9 4;d3;d9;d18;d127;c2,6,4;";
    /** All that a parish can have: seven persons (3 is mute), six doors, six parts. */
    static final String MOST = "p0;p8;p4;p9;p5;p1;p7;w0 6 5;w5 6 9;d1;d66;d127;d0;d36;d72;c0,8,4,5,1,7;";
    /** An object answers for no more than 512 calls, so a test asks for no more. */
    static final int MOST_CALLS = 512;

    interface Call {
        int on(VoiceWills x);
    }

    interface Deed {
        void on(VoiceWills x);
    }

    private final String name;
    private final String document;
    private final TreeSet<String> sentences = new TreeSet<>();
    private String sentence = "";
    private int checks;
    private int wrong;

    Edges(String name) {
        this.name = name;
        this.document = readDocument();
    }

    private static String readDocument() {
        Path path = Path.of(System.getProperty("project.root", "."), "..", "shared", "DOC.md");
        try {
            return oneLine(Files.readString(path));
        } catch (IOException e) {
            return "";
        }
    }

    private static String oneLine(String text) {
        return text.replaceAll("\\s+", " ");
    }

    /** The checks from here on are for this sentence. That it stands in the document is only looked after. */
    void says(String words) {
        sentence = words;
        sentences.add(words);
        if (!document.isEmpty() && !document.contains(oneLine(words))) {
            System.out.println(name + ": (not a fault) the document does not say any more: " + words);
        }
    }

    void due(String call, int got, int want) {
        checks++;
        if (got != want) {
            wrong++;
            System.out.println(name + ": \"" + sentence + "\": " + call + " answered " + got + ", due is " + want);
        }
    }

    void end() {
        System.out.println(name + ": " + sentences.size() + " sentences, " + checks + " checks, " + wrong + " wrong");
        if (wrong != 0) {
            System.exit(1);
        }
    }

    static void feedAll(VoiceWills x, String text) {
        for (int i = 0; i < text.length(); i++) {
            x.feed(text.charAt(i));
        }
    }

    static int tell(VoiceWills x, String text) {
        feedAll(x, text);
        return x.parish();
    }

    VoiceWills parishOf(String text) {
        VoiceWills x = new VoiceWills();
        int persons = tell(x, text);
        if (persons < 0) {
            due("parish of \"" + text + "\"", persons, 0);
        }
        return x;
    }

    /** A text with a fault. */
    void faulty(String text, int kind, int at) {
        VoiceWills x = new VoiceWills();
        due("parish of \"" + text + "\"", tell(x, text), -10 - kind);
        due("fault of \"" + text + "\"", x.fault(), at);
    }

    /** A text without one. */
    void sound(String text, int persons) {
        VoiceWills x = new VoiceWills();
        due("parish of \"" + text + "\"", tell(x, text), persons);
        due("fault of \"" + text + "\"", x.fault(), NONE);
    }

    static String times(String text, int n) {
        return text.repeat(n);
    }

    /** Both objects answer alike to all that can be asked without changing them. */
    void alike(String call, VoiceWills x, VoiceWills y) {
        for (int what = 0; what <= 11; what++) {
            due("behind " + call + " told(" + what + ")", x.told(what), y.told(what));
        }
        due("behind " + call + " fault()", x.fault(), y.fault());
        for (int p = 0; p < x.told(0); p++) {
            for (int what = 0; what <= 5; what++) {
                due("behind " + call + " person(" + p + ", " + what + ")", x.person(p, what), y.person(p, what));
            }
            due("behind " + call + " range(" + p + ")", x.range(p), y.range(p));
        }
        for (int d = 0; d < x.told(1); d++) {
            due("behind " + call + " door(" + d + ")", x.door(d), y.door(d));
        }
        for (int k = NONE; k < x.told(2); k++) {
            due("behind " + call + " sing(" + k + ")", x.sing(k), y.sing(k));
        }
        for (int what = 0; what <= 1; what++) {
            due("behind " + call + " spoke(" + what + ")", x.spoke(what), y.spoke(what));
        }
        due("behind " + call + " judge()", x.judge(), y.judge());
        due("behind " + call + " orders(0, -1)", x.orders(0, NONE), y.orders(0, NONE));
    }

    /** Both are alike now, at each step that can be undone, and in both images with their seeds. */
    void alikeToTheGround(String call, VoiceWills x, VoiceWills y) {
        alike(call, x, y);
        int seed = x.seed(5);
        due("behind " + call + " the seed", seed, y.seed(5));
        for (int left = x.told(11); left > 0; left--) {
            due("behind " + call + " undo()", x.undo(), y.undo());
            due("then told(5)", x.told(5), y.told(5));
            due("then told(4)", x.told(4), y.told(4));
            due("then person(1, 0)", x.person(1, 0), y.person(1, 0));
            due("then person(1, 1)", x.person(1, 1), y.person(1, 1));
            due("then person(1, 2)", x.person(1, 2), y.person(1, 2));
        }
        for (int i = 0; i <= 1; i++) {
            due("behind " + call + " goBack(" + i + ")", x.goBack(i), y.goBack(i));
            alike(call + ", goBack(" + i + ")", x, y);
            due("behind " + call + ", goBack(" + i + ") the seed", x.seed(6), y.seed(6));
        }
        due("behind " + call + " the text, ended", tell(x, "4;"), tell(y, "4;"));
    }
}
