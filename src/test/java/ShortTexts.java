/** Every text of up to four letters behind each of some beginnings, beside the model: none is left to luck. */
public final class ShortTexts {
    private static final String LETTERS = "pwdc019; ,x";
    private static final int MOST = 4;
    private static final String[] BEGINNINGS = {"", "p1;p9;", "p1;p2;w0 1 9;", "p1;p2;p3;p4;p5;p6;p7;",
        "d1;d2;d3;d4;d5;d6;", "c1,2,3,4,5,6", "c1;", "p1;w", "p1;p2;w1", "p1;p2;w1 0", "p", "d", "d12", "c1,",
        "p1;p2;w0 1 9 ; w"};
    private static final int CALLS_LEFT_FOR_A_TEXT = 120;

    private VoiceWills own = new VoiceWills();
    private Model model = new Model();
    private int calls;
    private int texts;
    private int wrong;

    private boolean same(int got, int want) {
        calls++;
        return got == want;
    }

    private boolean readsAlike(CharSequence text) {
        boolean fine = true;
        for (int i = 0; i < text.length(); i++) {
            fine &= same(own.feed(text.charAt(i)), model.feed(text.charAt(i)));
        }
        fine &= same(own.parish(), model.parish()) && same(own.fault(), model.fault());
        for (int what = 0; what <= 3; what++) {
            fine &= same(own.told(what), model.told(what));
        }
        for (int k = 0; k < 7; k++) {
            fine &= same(own.range(k), model.range(k)) && same(own.door(k), model.door(k));
            for (int what = 0; what <= 4 && k < model.told(0); what++) {
                fine &= same(own.person(k, what), model.person(k, what));
            }
        }
        return fine;
    }

    private void readAll(StringBuilder text, int more) {
        if (calls > Edges.MOST_CALLS - CALLS_LEFT_FOR_A_TEXT) {
            own = new VoiceWills();
            model = new Model();
            calls = 0;
        }
        texts++;
        if (!readsAlike(text)) {
            wrong++;
            System.out.println("ShortTexts: not read as the model reads it: \"" + text + "\"");
        }
        for (int i = 0; i < LETTERS.length() && more > 0; i++) {
            text.append(LETTERS.charAt(i));
            readAll(text, more - 1);
            text.setLength(text.length() - 1);
        }
    }

    public static void main(String[] args) {
        ShortTexts all = new ShortTexts();
        for (String beginning : BEGINNINGS) {
            all.readAll(new StringBuilder(beginning), MOST);
        }
        System.out.println("ShortTexts: " + all.texts + " texts, " + all.wrong + " wrong");
        if (all.wrong != 0) {
            System.exit(1);
        }
    }
}
