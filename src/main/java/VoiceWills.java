/** Voices that are left by will: a parish, what is done in it, and what can be thought out from it. */
public final class VoiceWills {
    public static final int NONE = -1, UNKNOWN = -1000000001, OUTSIDE = -1000000002, NOT = -1000000003, FULL = -1000000004;

    private static final int MOST_PERSONS = 7;
    private static final int MOST_DOORS = 6;
    private static final int MOST_PARTS = 6;
    private static final int MOST_LETTERS = 240;
    private static final int MOST_SEEN = 6;
    private static final int MOST_KNOWN = 6;
    private static final int MOST_BOOK = 15;
    private static final int MOST_UNDONE = 20;
    private static final int MOST_YEARS = 60;
    private static final int MOST_IN_ORDERS = 4;
    private static final int IMAGES = 2;
    private static final int SETS_OF_PERSONS = 128;
    private static final int BILLION = 1000000000;

    /** The figure for nobody in a will, for no voice used, and for the range of one who is mute. */
    private static final int NOBODY = 9;
    private static final int HIGHEST_RANGE = 8;
    private static final int FIRST_ASKED = -2;

    private static final int CANNOT_STAND = 1;
    private static final int OUT_OF_BOUNDS = 2;
    private static final int TOO_MANY = 3;
    private static final int WRONG_WILL = 4;

    /** How many orders there are of 0 to 4 persons. */
    private static final int[] ORDERS_OF = {1, 1, 2, 6, 24};

    private final Reader reader = new Reader();
    private Parish here = new Parish();
    private Parish draft = new Parish();
    private final Folk now = new Folk();
    private final Folk tried = new Folk();
    private final Past past = new Past();
    private final Image[] images = new Image[IMAGES];
    private final Draws draws = new Draws();
    private final Entries seen = new Entries(MOST_SEEN);
    private final Entries known = new Entries(MOST_KNOWN);
    private final Entries book = new Entries(MOST_BOOK);
    private final Line line = new Line();
    private final Choir choir = new Choir();

    public VoiceWills() {
        for (int i = 0; i < images.length; i++) {
            images[i] = new Image();
        }
    }

    // ---- the parish

    public int feed(int letter) {
        if (letter < 0 || letter > 255) {
            return OUTSIDE;
        }
        return reader.add(letter) ? reader.size : FULL;
    }

    public int parish() {
        if (!reader.readInto(draft)) {
            return -10 - reader.faultKind;
        }
        Parish old = here;
        here = draft;
        draft = old;
        now.begin(here);
        seen.clear();
        known.clear();
        book.clear();
        past.forget();
        for (int i = 0; i < images.length; i++) {
            images[i].kept = false;
        }
        return here.persons;
    }

    public int fault() {
        return reader.faultAt;
    }

    public int told(int what) {
        switch (what) {
            case 0: return here.persons;
            case 1: return here.doors;
            case 2: return here.parts;
            case 3: return reader.size;
            case 4: return now.deaths;
            case 5: return now.alive;
            case 6: return now.silent();
            case 7: return here.voices() & ~now.held();
            case 8: return seen.size;
            case 9: return known.size;
            case 10: return book.size;
            case 11: return past.size;
            default: return OUTSIDE;
        }
    }

    public int person(int p, int what) {
        if (!here.hasPerson(p)) {
            return UNKNOWN;
        }
        switch (what) {
            case 0: return now.voiceOf(p);
            case 1: return now.jarOf(p);
            case 2: return now.firstHeir(p);
            case 3: return now.secondHeir(p);
            case 4: return here.openTo(now.voiceOf(p));
            case 5: return now.lives(p) ? 1 : 0;
            default: return OUTSIDE;
        }
    }

    public int range(int v) {
        return here.hasPerson(v) ? here.rangeOf(v) : UNKNOWN;
    }

    public int door(int d) {
        return here.hasDoor(d) ? here.knownBy(d) : UNKNOWN;
    }

    // ---- what is done

    public int die(int p) {
        if (!here.hasPerson(p)) {
            return UNKNOWN;
        }
        if (!now.lives(p)) {
            return NOT;
        }
        past.remember(now);
        return now.bury(p);
    }

    public int sell(int p, int q) {
        if (!here.hasPerson(p) || !here.hasPerson(q) || p == q) {
            return UNKNOWN;
        }
        if (!now.canHandOver(p, q)) {
            return NOT;
        }
        past.remember(now);
        now.handOver(p, q);
        return now.voiceOf(p);
    }

    public int putBy(int p, int v) {
        if (!here.hasPerson(p) || !isVoiceNumber(v)) {
            return UNKNOWN;
        }
        if (!now.lives(p) || !isIn(now.jarOf(p), v)) {
            return NOT;
        }
        past.remember(now);
        return now.takeOut(p, v);
    }

    public int will(int p, int a, int b) {
        if (!here.hasPerson(p) || !canInherit(p, a) || !canInherit(p, b)) {
            return UNKNOWN;
        }
        if (!now.lives(p)) {
            return NOT;
        }
        past.remember(now);
        int before = 10 * now.firstHeir(p) + now.secondHeir(p);
        now.changeWill(p, a, b);
        return before;
    }

    public int drift(int n) {
        if (n < 1 || n > MOST_YEARS) {
            return OUTSIDE;
        }
        if (here.persons == 0) {
            return NOT;
        }
        past.remember(now);
        for (int year = 0; year < n; year++) {
            passYear();
        }
        return now.alive;
    }

    public int undo() {
        return past.bringBack(now) ? past.size : NOT;
    }

    // ---- tried

    public int after(int order, int p) {
        if (!here.hasPerson(p)) {
            return UNKNOWN;
        }
        if (!line.readOrder(order, now)) {
            return OUTSIDE;
        }
        tryLine();
        return tried.voiceOf(p);
    }

    public int whose(int order, int v) {
        if (!isVoiceNumber(v)) {
            return UNKNOWN;
        }
        if (!line.readOrder(order, now)) {
            return OUTSIDE;
        }
        tryLine();
        return tried.userOf(v);
    }

    public int wills(int order, int p, int v, int what) {
        if (!here.hasPerson(p) || !here.hasVoice(v)) {
            return UNKNOWN;
        }
        if (what < 0 || what > 1 || !line.readOrder(order, now)) {
            return OUTSIDE;
        }
        int set = fewestWills(p, v);
        if (set == NONE) {
            return NONE;
        }
        return what == 0 ? Integer.bitCount(set) : set;
    }

    public int sing(int k) {
        if (k != NONE && !here.hasPart(k)) {
            return UNKNOWN;
        }
        choir.give(here, now);
        return k == NONE ? choir.sung() : choir.singerOf(k);
    }

    public int bid(int p, int c) {
        if (!here.hasPerson(p)) {
            return UNKNOWN;
        }
        if (c < 0 || c > 99) {
            return OUTSIDE;
        }
        if (!now.lives(p)) {
            return NOT;
        }
        int v = now.voiceOf(p);
        if (v == NOBODY) {
            return 0;
        }
        return (here.rangeOf(v) + 1) * Integer.bitCount(here.openTo(v)) * c;
    }

    public int live(int set, int n, int q) {
        if (!here.hasPersons(set)) {
            return UNKNOWN;
        }
        if (n < 0 || n > MOST_YEARS || q < 0 || q > 100) {
            return OUTSIDE;
        }
        if (!now.allLive(set)) {
            return NOT;
        }
        int times = Integer.bitCount(set) * n;
        long odds = BILLION;
        for (int i = 0; i < times; i++) {
            odds = odds * (100 - q) / 100;
        }
        return (int) odds;
    }

    // ---- what is seen and known

    public int see(int d, boolean opened) {
        if (!here.hasDoor(d)) {
            return UNKNOWN;
        }
        return seen.add(d, opened ? 1 : 0) ? seen.size : FULL;
    }

    public int spoke(int what) {
        switch (what) {
            case 0: return voicesThatSpoke();
            case 1: return now.usersOf(voicesThatSpoke());
            default: return OUTSIDE;
        }
    }

    public int knock() {
        int voices = voicesThatSpoke();
        int best = NONE;
        int bestPart = Integer.bitCount(voices);
        for (int d = 0; d < here.doors; d++) {
            int in = Integer.bitCount(voices & here.knownBy(d));
            int part = Math.max(in, Integer.bitCount(voices) - in);
            if (part < bestPart) {
                best = d;
                bestPart = part;
            }
        }
        return best;
    }

    public int has(int p, int v) {
        if (!here.hasPerson(p) || !isVoiceOrNone(v)) {
            return UNKNOWN;
        }
        return known.add(p, v) ? known.size : FULL;
    }

    public int orders(int set, int i) {
        if (!here.hasPersons(set)) {
            return UNKNOWN;
        }
        if (Integer.bitCount(set) > MOST_IN_ORDERS) {
            return OUTSIDE;
        }
        if (!now.allLive(set)) {
            return NOT;
        }
        if (i == FIRST_ASKED) {
            return firstInAllOrders(set);
        }
        return i == NONE ? countOrders(set) : orderNumber(set, i);
    }

    public int write(int p, int v) {
        if (!here.hasPerson(p) || !isVoiceOrNone(v)) {
            return UNKNOWN;
        }
        return book.add(p, v) ? book.size : FULL;
    }

    public int tear() {
        int all = seen.size + known.size + book.size;
        seen.clear();
        known.clear();
        book.clear();
        return all;
    }

    public int judge() {
        return book.firstUnlike(now);
    }

    // ---- draws, images

    public int seed(int v) {
        if (v < 0) {
            return OUTSIDE;
        }
        int before = draws.state;
        draws.state = v;
        return before;
    }

    public int keep(int i) {
        Image image = imageOf(i);
        if (image == null) {
            return UNKNOWN;
        }
        image.folk.copy(now);
        image.drawState = draws.state;
        image.kept = true;
        past.forget();
        return 1;
    }

    public int goBack(int i) {
        Image image = imageOf(i);
        if (image == null) {
            return UNKNOWN;
        }
        if (!image.kept) {
            return NOT;
        }
        now.copy(image.folk);
        draws.state = image.drawState;
        past.forget();
        return 1;
    }

    // ---- what the calls above share

    private static boolean isIn(int set, int k) {
        return k >= 0 && k < MOST_PERSONS && (set >> k & 1) != 0;
    }

    private static boolean isVoiceNumber(int v) {
        return v >= 0 && v < MOST_PERSONS;
    }

    private static boolean isVoiceOrNone(int v) {
        return v == NOBODY || isVoiceNumber(v);
    }

    private Image imageOf(int i) {
        return i >= 0 && i < images.length ? images[i] : null;
    }

    private boolean canInherit(int p, int heir) {
        return heir == NOBODY || here.hasPerson(heir) && heir != p;
    }

    private void passYear() {
        int p = draws.next(here.persons);
        int lot = draws.next(3);
        if (lot == 0) {
            now.bury(p);
        } else if (lot == 1) {
            now.handOver(p, p + 1 < here.persons ? p + 1 : 0);
        }
    }

    private void tryLine() {
        tried.copy(now);
        line.buryIn(tried);
    }

    /** The least of the smallest sets of persons whose other wills bring voice v to p behind the line's deaths. */
    private int fewestWills(int p, int v) {
        tryLine();
        if (tried.voiceOf(p) == v) {
            return 0;
        }
        for (int x = 0; x < here.persons; x++) {
            if (line.holds(x) && helpsAlone(x, p, v)) {
                return 1 << x;
            }
        }
        // the higher one leads, so that the sets come in rising order
        for (int y = 1; y < here.persons; y++) {
            for (int x = 0; x < y; x++) {
                if (line.holds(x) && line.holds(y) && helpTogether(x, y, p, v)) {
                    return 1 << x | 1 << y;
                }
            }
        }
        return NONE;
    }

    private boolean helpsAlone(int x, int p, int v) {
        for (int a = 0; a <= NOBODY; a++) {
            if (canInherit(x, a)) {
                tried.copy(now);
                tried.changeWill(x, a, NOBODY);
                line.buryIn(tried);
                if (tried.voiceOf(p) == v) {
                    return true;
                }
            }
        }
        return false;
    }

    private boolean helpTogether(int x, int y, int p, int v) {
        for (int a = 0; a <= NOBODY; a++) {
            for (int b = 0; b <= NOBODY && canInherit(x, a); b++) {
                if (canInherit(y, b)) {
                    tried.copy(now);
                    tried.changeWill(x, a, NOBODY);
                    tried.changeWill(y, b, NOBODY);
                    line.buryIn(tried);
                    if (tried.voiceOf(p) == v) {
                        return true;
                    }
                }
            }
        }
        return false;
    }

    private int voicesThatSpoke() {
        int voices = here.voices();
        for (int i = 0; i < seen.size; i++) {
            int knows = here.knownBy(seen.subjectAt(i));
            voices &= seen.valueAt(i) == 1 ? knows : ~knows;
        }
        return voices;
    }

    private boolean fitsOrder(int set, int index) {
        line.setOrder(set, index);
        tried.copy(now);
        line.buryIn(tried);
        return known.firstUnlike(tried) == NONE;
    }

    private int countOrders(int set) {
        int count = 0;
        for (int k = 0; k < ordersOf(set); k++) {
            if (fitsOrder(set, k)) {
                count++;
            }
        }
        return count;
    }

    private int orderNumber(int set, int i) {
        int before = 0;
        for (int k = 0; k < ordersOf(set); k++) {
            if (fitsOrder(set, k)) {
                if (before == i) {
                    return line.asNumber();
                }
                before++;
            }
        }
        return NONE;
    }

    private int firstInAllOrders(int set) {
        int first = NONE;
        for (int k = 0; k < ordersOf(set); k++) {
            if (fitsOrder(set, k)) {
                if (first != NONE && first != line.firstOne()) {
                    return NONE;
                }
                first = line.firstOne();
            }
        }
        return first;
    }

    private static int ordersOf(int set) {
        int size = Integer.bitCount(set);
        return size < ORDERS_OF.length ? ORDERS_OF[size] : 0;
    }

    // ---- the classes inside

    /** What a text tells: ranges, the wills as they are at first, doors, a choir's parts. */
    private static final class Parish {
        int persons;
        int doors;
        int parts;
        private int willsTold;
        private final int[] ranges = new int[MOST_PERSONS];
        private final int[] firsts = new int[MOST_PERSONS];
        private final int[] seconds = new int[MOST_PERSONS];
        private final int[] knowing = new int[MOST_DOORS];
        private final int[] partRanges = new int[MOST_PARTS];

        void empty() {
            persons = 0;
            doors = 0;
            parts = 0;
            willsTold = 0;
        }

        void addPerson(int r) {
            if (persons < ranges.length) {
                ranges[persons] = r;
                firsts[persons] = NOBODY;
                seconds[persons] = NOBODY;
                persons++;
            }
        }

        void addWill(int p, int a, int b) {
            if (hasPerson(p)) {
                firsts[p] = a;
                seconds[p] = b;
                willsTold |= 1 << p;
            }
        }

        void addDoor(int voices) {
            if (doors < knowing.length) {
                knowing[doors] = voices;
                doors++;
            }
        }

        void addPart(int r) {
            if (parts < partRanges.length) {
                partRanges[parts] = r;
                parts++;
            }
        }

        boolean hasPerson(int p) {
            return p >= 0 && p < persons;
        }

        boolean hasPersons(int set) {
            return set >= 0 && set < 1 << persons;
        }

        boolean hasVoice(int v) {
            return rangeOf(v) != NOBODY;
        }

        boolean hasDoor(int d) {
            return d >= 0 && d < doors;
        }

        boolean hasPart(int k) {
            return k >= 0 && k < parts;
        }

        boolean hasWill(int p) {
            return isIn(willsTold, p);
        }

        int rangeOf(int v) {
            return hasPerson(v) ? ranges[v] : NOBODY;
        }

        int firstToldHeir(int p) {
            return hasPerson(p) ? firsts[p] : NOBODY;
        }

        int secondToldHeir(int p) {
            return hasPerson(p) ? seconds[p] : NOBODY;
        }

        int knownBy(int d) {
            return hasDoor(d) ? knowing[d] : 0;
        }

        int voices() {
            int set = 0;
            for (int v = 0; v < persons; v++) {
                if (hasVoice(v)) {
                    set |= 1 << v;
                }
            }
            return set;
        }

        int openTo(int v) {
            int set = 0;
            for (int d = 0; d < doors; d++) {
                if (isIn(knowing[d], v)) {
                    set |= 1 << d;
                }
            }
            return set;
        }

        boolean suits(int k, int v) {
            return hasPart(k) && hasVoice(v) && Math.abs(rangeOf(v) - partRanges[k]) <= 1;
        }
    }

    /** The text as it comes, and its reading with the first fault. */
    private static final class Reader {
        int size;
        int faultKind;
        int faultAt = NONE;
        private int at;
        private int numberAt;
        private final int[] letters = new int[MOST_LETTERS];

        boolean add(int letter) {
            if (size >= letters.length) {
                return false;
            }
            letters[size] = letter;
            size++;
            return true;
        }

        boolean readInto(Parish parish) {
            parish.empty();
            at = 0;
            faultKind = 0;
            faultAt = NONE;
            skipBlanks();
            for (int clause = 0; clause < MOST_LETTERS && at < size && isSound(); clause++) {
                readClause(parish);
                skipBlanks();
            }
            size = 0;
            return isSound();
        }

        private void readClause(Parish parish) {
            switch (letterHere()) {
                case 'p': readPerson(parish); break;
                case 'w': readWill(parish); break;
                case 'd': readDoor(parish); break;
                case 'c': readChoir(parish); break;
                default: blame(CANNOT_STAND, at); break;
            }
        }

        private void readPerson(Parish parish) {
            if (parish.persons >= MOST_PERSONS) {
                blame(TOO_MANY, at);
                return;
            }
            at++;
            int r = readNumber(NOBODY);
            if (readSign(';')) {
                parish.addPerson(r);
            }
        }

        private void readWill(Parish parish) {
            at++;
            int p = readNumber(parish.persons - 1);
            if (isSound() && parish.hasWill(p)) {
                blame(WRONG_WILL, numberAt);
            }
            int a = readHeir(parish, p);
            int b = readHeir(parish, p);
            if (readSign(';')) {
                parish.addWill(p, a, b);
            }
        }

        private int readHeir(Parish parish, int p) {
            int heir = readNumber(NOBODY);
            if (isSound() && heir != NOBODY) {
                if (!parish.hasPerson(heir)) {
                    blame(OUT_OF_BOUNDS, numberAt);
                } else if (heir == p) {
                    blame(WRONG_WILL, numberAt);
                }
            }
            return heir;
        }

        private void readDoor(Parish parish) {
            if (parish.doors >= MOST_DOORS) {
                blame(TOO_MANY, at);
                return;
            }
            at++;
            int voices = readNumber(SETS_OF_PERSONS - 1);
            if (readSign(';')) {
                parish.addDoor(voices);
            }
        }

        private void readChoir(Parish parish) {
            if (parish.parts > 0) {
                blame(TOO_MANY, at);
                return;
            }
            at++;
            parish.addPart(readNumber(HIGHEST_RANGE));
            for (int k = 1; k < MOST_PARTS && isNext(','); k++) {
                at++;
                parish.addPart(readNumber(HIGHEST_RANGE));
            }
            readSign(';');
        }

        /** The number that must stand here; NONE behind a fault. */
        private int readNumber(int most) {
            if (!isSound()) {
                return NONE;
            }
            skipBlanks();
            numberAt = at;
            int figures = 0;
            int value = 0;
            for (; at < size && isFigure(letterHere()); at++) {
                figures++;
                value = figures > 3 ? value : 10 * value + letterHere() - '0';
            }
            if (figures == 0) {
                blame(CANNOT_STAND, at);
            } else if (figures > 3 || value > most) {
                blame(OUT_OF_BOUNDS, numberAt);
            }
            return isSound() ? value : NONE;
        }

        private boolean readSign(int sign) {
            if (isNext(sign)) {
                at++;
                return true;
            }
            blame(CANNOT_STAND, at);
            return false;
        }

        private boolean isNext(int sign) {
            if (!isSound()) {
                return false;
            }
            skipBlanks();
            return letterHere() == sign;
        }

        private void skipBlanks() {
            while (at < size && at < letters.length && letters[at] == ' ') {
                at++;
            }
        }

        private int letterHere() {
            return at < size && at < letters.length ? letters[at] : NONE;
        }

        private static boolean isFigure(int letter) {
            return letter >= '0' && letter <= '9';
        }

        private boolean isSound() {
            return faultKind == 0;
        }

        /** The first fault stays: the text is read from left to right, a number's fault stands at its first figure. */
        private void blame(int kind, int where) {
            if (faultKind == 0) {
                faultKind = kind;
                faultAt = where;
            }
        }
    }

    /** Who is alive, what each uses, has in his jar and has willed: all that deaths and sales change. */
    private static final class Folk {
        int alive;
        int deaths;
        private int count;
        private final int[] uses = new int[MOST_PERSONS];
        private final int[] jars = new int[MOST_PERSONS];
        private final int[] firsts = new int[MOST_PERSONS];
        private final int[] seconds = new int[MOST_PERSONS];

        void begin(Parish parish) {
            count = Math.min(parish.persons, MOST_PERSONS);
            alive = (1 << count) - 1;
            deaths = 0;
            for (int p = 0; p < MOST_PERSONS; p++) {
                uses[p] = parish.hasVoice(p) ? p : NOBODY;
                jars[p] = 0;
                firsts[p] = parish.firstToldHeir(p);
                seconds[p] = parish.secondToldHeir(p);
            }
        }

        void copy(Folk other) {
            count = other.count;
            alive = other.alive;
            deaths = other.deaths;
            for (int p = 0; p < MOST_PERSONS; p++) {
                uses[p] = other.uses[p];
                jars[p] = other.jars[p];
                firsts[p] = other.firsts[p];
                seconds[p] = other.seconds[p];
            }
        }

        private boolean isOne(int p) {
            return p >= 0 && p < count;
        }

        boolean lives(int p) {
            return p >= 0 && p < count && (alive >> p & 1) != 0;
        }

        boolean allLive(int set) {
            return (set & ~alive) == 0;
        }

        int voiceOf(int p) {
            return isOne(p) ? uses[p] : NOBODY;
        }

        int jarOf(int p) {
            return isOne(p) ? jars[p] : 0;
        }

        int firstHeir(int p) {
            return isOne(p) ? firsts[p] : NOBODY;
        }

        int secondHeir(int p) {
            return isOne(p) ? seconds[p] : NOBODY;
        }

        int silent() {
            int set = 0;
            for (int p = 0; p < count; p++) {
                if ((alive >> p & 1) != 0 && uses[p] == NOBODY) {
                    set |= 1 << p;
                }
            }
            return set;
        }

        /** Voices that somebody alive uses or has put by. */
        int held() {
            int set = 0;
            for (int p = 0; p < count; p++) {
                if (lives(p)) {
                    set |= jars[p];
                    set |= isVoiceNumber(uses[p]) ? 1 << uses[p] : 0;
                }
            }
            return set;
        }

        int userOf(int v) {
            for (int p = 0; p < count; p++) {
                if (lives(p) && uses[p] == v) {
                    return p;
                }
            }
            return NONE;
        }

        int usersOf(int voices) {
            int set = 0;
            for (int p = 0; p < count; p++) {
                if (lives(p) && isIn(voices, uses[p])) {
                    set |= 1 << p;
                }
            }
            return set;
        }

        /** One dies: who got the voice that he used, or NONE. */
        int bury(int p) {
            if (!lives(p)) {
                return NONE;
            }
            int voice = uses[p];
            int jar = jars[p];
            alive &= ~(1 << p);
            uses[p] = NOBODY;
            jars[p] = 0;
            deaths++;
            int heir = NONE;
            if (voice != NOBODY) {
                heir = firstAlive(firsts[p], seconds[p]);
                give(heir, voice);
            }
            for (int v = 0; v < MOST_PERSONS && jar != 0; v++) {
                if (isIn(jar, v)) {
                    give(leastOf(silent()), v);
                }
            }
            return heir;
        }

        private int firstAlive(int a, int b) {
            if (lives(a)) {
                return a;
            }
            return lives(b) ? b : leastOf(silent());
        }

        /** What goes to nobody alive is lost. */
        private void give(int q, int voice) {
            if (lives(q)) {
                if (isVoiceNumber(uses[q])) {
                    jars[q] |= 1 << uses[q];
                }
                uses[q] = voice;
            }
        }

        private static int leastOf(int set) {
            return set == 0 ? NONE : Integer.numberOfTrailingZeros(set);
        }

        boolean canHandOver(int p, int q) {
            return p != q && lives(p) && lives(q) && uses[p] != NOBODY;
        }

        /** One gives another the voice that he uses; nothing happens where he cannot. */
        void handOver(int p, int q) {
            if (!canHandOver(p, q)) {
                return;
            }
            give(q, uses[p]);
            int least = leastOf(jars[p]);
            if (least == NONE) {
                uses[p] = NOBODY;
            } else {
                uses[p] = least;
                jars[p] &= ~(1 << least);
            }
        }

        /** One uses voice v of his jar instead of the one that he used, which is the answer. */
        int takeOut(int p, int v) {
            if (!lives(p) || !isIn(jars[p], v)) {
                return NOBODY;
            }
            int before = uses[p];
            jars[p] &= ~(1 << v);
            give(p, v);
            return before;
        }

        void changeWill(int p, int a, int b) {
            if (isOne(p)) {
                firsts[p] = a;
                seconds[p] = b;
            }
        }
    }

    /** What can be undone: the latest states, the oldest of which make room. */
    private static final class Past {
        int size;
        private int next;
        private final Folk[] states = new Folk[MOST_UNDONE];

        Past() {
            for (int i = 0; i < states.length; i++) {
                states[i] = new Folk();
            }
        }

        void forget() {
            size = 0;
            next = 0;
        }

        void remember(Folk folk) {
            if (next < 0 || next >= states.length) {
                next = 0;
            }
            states[next].copy(folk);
            next++;
            size = Math.min(size + 1, states.length);
        }

        boolean bringBack(Folk folk) {
            if (size == 0) {
                return false;
            }
            next = next <= 0 || next > states.length ? states.length - 1 : next - 1;
            folk.copy(states[next]);
            size--;
            return true;
        }
    }

    /** A state to go on from, with the seed of that time. */
    private static final class Image {
        boolean kept;
        int drawState;
        final Folk folk = new Folk();
    }

    private static final class Draws {
        int state;

        int next(int n) {
            state = (int) ((state * 1103515245L + 12345L) % 2147483648L);
            return n > 0 ? state / 65536 % n : 0;
        }
    }

    /** Pairs of a subject (a door, a person) and what is told of it (opened or not, a voice). */
    private static final class Entries {
        int size;
        private final int[] subjects;
        private final int[] values;

        Entries(int most) {
            int length = Math.max(0, most);
            subjects = new int[length];
            values = new int[length];
        }

        void clear() {
            size = 0;
        }

        boolean add(int subject, int value) {
            if (size >= subjects.length || size >= values.length) {
                return false;
            }
            subjects[size] = subject;
            values[size] = value;
            size++;
            return true;
        }

        int subjectAt(int i) {
            return i >= 0 && i < size ? subjects[i] : NONE;
        }

        int valueAt(int i) {
            return i >= 0 && i < size ? values[i] : NONE;
        }

        /** The first entry whose person uses another voice among these folk. */
        int firstUnlike(Folk folk) {
            for (int i = 0; i < size; i++) {
                if (folk.voiceOf(subjects[i]) != values[i]) {
                    return i;
                }
            }
            return NONE;
        }
    }

    /** Those who die, the first ahead. */
    private static final class Line {
        private int size;
        private int members;
        private final int[] persons = new int[MOST_PERSONS];

        private void empty() {
            size = 0;
            members = 0;
        }

        private void add(int p) {
            if (size < persons.length) {
                persons[size] = p;
                size++;
                members |= 1 << p;
            }
        }

        /** False where a figure is nobody alive, or comes twice; so 0 is no order, its one figure stands for nobody. */
        boolean readOrder(int order, Folk folk) {
            empty();
            if (order <= 0) {
                return false;
            }
            int rest = order;
            for (int unit = BILLION; unit >= 1; unit /= 10) {
                int figure = rest / unit;
                rest %= unit;
                if (figure > 0 || size > 0) {
                    if (!folk.lives(figure - 1) || holds(figure - 1)) {
                        return false;
                    }
                    add(figure - 1);
                }
            }
            return true;
        }

        /** The order of this index among all orders of a set, as their numbers rise. */
        void setOrder(int set, int index) {
            empty();
            int left = set;
            int rest = index;
            for (int more = Integer.bitCount(set) - 1; more >= 0 && more < ORDERS_OF.length; more--) {
                int each = Math.max(1, ORDERS_OF[more]);
                int p = memberAt(left, rest / each);
                rest %= each;
                left &= ~(1 << p);
                add(p);
            }
        }

        private static int memberAt(int set, int index) {
            int before = 0;
            for (int p = 0; p < MOST_PERSONS; p++) {
                if (isIn(set, p)) {
                    if (before == index) {
                        return p;
                    }
                    before++;
                }
            }
            return 0;
        }

        boolean holds(int p) {
            return isIn(members, p);
        }

        int firstOne() {
            return size > 0 ? persons[0] : NONE;
        }

        int asNumber() {
            int number = 0;
            for (int i = 0; i < size; i++) {
                number = 10 * number + persons[i] + 1;
            }
            return number;
        }

        void buryIn(Folk folk) {
            for (int i = 0; i < size; i++) {
                folk.bury(persons[i]);
            }
        }
    }

    /** Who should sing which part. */
    private static final class Choir {
        private final int[] singers = new int[MOST_PARTS];
        /** Who suits each part, as a set. */
        private final int[] suited = new int[MOST_PARTS];
        /** How many parts from k on can be sung where a set of persons sings already. */
        private final int[][] most = new int[MOST_PARTS + 1][SETS_OF_PERSONS];

        void give(Parish parish, Folk folk) {
            for (int k = MOST_PARTS - 1; k >= 0; k--) {
                suited[k] = suitedFor(k, parish, folk);
                for (int busy = 0; busy < SETS_OF_PERSONS; busy++) {
                    most[k][busy] = mostFrom(k, busy);
                }
            }
            int busy = 0;
            for (int k = 0; k < MOST_PARTS; k++) {
                singers[k] = leastSinger(k, busy);
                if (singers[k] != NONE) {
                    busy |= 1 << singers[k];
                }
            }
        }

        private static int suitedFor(int k, Parish parish, Folk folk) {
            int set = 0;
            for (int p = 0; p < MOST_PERSONS; p++) {
                if (folk.lives(p) && parish.suits(k, folk.voiceOf(p))) {
                    set |= 1 << p;
                }
            }
            return set;
        }

        private int mostFrom(int k, int busy) {
            int best = sungFrom(k + 1, busy);
            for (int p = 0; p < MOST_PERSONS; p++) {
                if (isFree(k, p, busy)) {
                    best = Math.max(best, 1 + sungFrom(k + 1, busy | 1 << p));
                }
            }
            return best;
        }

        private int leastSinger(int k, int busy) {
            for (int p = 0; p < MOST_PERSONS; p++) {
                if (isFree(k, p, busy) && 1 + sungFrom(k + 1, busy | 1 << p) == sungFrom(k, busy)) {
                    return p;
                }
            }
            return NONE;
        }

        private boolean isFree(int k, int p, int busy) {
            return k >= 0 && k < suited.length && isIn(suited[k], p) && !isIn(busy, p);
        }

        private int sungFrom(int k, int busy) {
            return k >= 0 && k <= MOST_PARTS && busy >= 0 && busy < SETS_OF_PERSONS ? most[k][busy] : 0;
        }

        int sung() {
            return sungFrom(0, 0);
        }

        int singerOf(int k) {
            return k >= 0 && k < singers.length ? singers[k] : NONE;
        }
    }
}
