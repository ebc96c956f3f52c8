/**
 * Evenings on the hospitable moors, where each guest must be contradicted once.
 * The document's promises are met by the public methods; they look at what is
 * handed in and refuse it, the classes inside do the rest.
 */
public final class GuestNoes {
    public static final int NONE = -1, UNKNOWN = -1000000001, OUTSIDE = -1000000002, NOT = -1000000003, FULL = -1000000004;

    private static final int MOST_GUESTS = 6;
    private static final int MOST_CLAIMS = 6;
    private static final int MOST_HOSTS = 4;
    private static final int TOPICS = 8;
    private static final int MOST_HOURS = 90000;
    private static final int MOST_EVENINGS = 90000;
    private static final int MOST_HOURS_A_CALL = 20;
    private static final int BILLION = 1000000000;

    private final Reader reader = new Reader();
    private final Night night = new Night();
    private final Past past = new Past();
    private final Image firstImage = new Image();
    private final Image secondImage = new Image();
    private final Draws draws = new Draws();
    private final Pick pick = new Pick();
    private final Planner planner = new Planner();
    private final Waiting waiting = new Waiting();
    private final Ear ear = new Ear();
    private final Book book = new Book();
    private Table table = new Table();
    // A text with a fault must leave the evening as it was, so it is read into this one.
    private Table spareTable = new Table();

    public GuestNoes() {
    }

    // ---- the evening

    public int feed(int letter) {
        if (letter < 0 || letter > 255) {
            return OUTSIDE;
        }
        return reader.append(letter) ? reader.length : FULL;
    }

    public int evening() {
        reader.readInto(spareTable);
        if (reader.faultNumber != 0) {
            return -10 - reader.faultNumber;
        }
        Table read = spareTable;
        spareTable = table;
        table = read;
        night.begin(table);
        past.forget();
        firstImage.kept = false;
        secondImage.kept = false;
        ear.count = 0;
        book.count = 0;
        return table.guests;
    }

    public int fault() {
        return reader.faultPlace;
    }

    public int told(int what) {
        switch (what) {
            case 0: return table.there ? 1 : 0;
            case 1: return table.guests;
            case 2: return table.hosts;
            case 3: return table.truths;
            case 4: return reader.length;
            case 5: return night.hours();
            case 6: return night.evenings();
            case 7: return night.glad();
            case 8: return night.insults();
            case 9: return night.whoIsUp();
            case 10: return night.whoWasTold(table);
            case 11: return night.whoWalks();
            case 12: return table.whoIsRight();
            case 13: return table.topicsOfNobody();
            case 14: return night.whoWasToldMeanly(table);
            case 15: return night.leastPleased(table);
            case 16: return ear.count;
            case 17: return book.count;
            case 18: return past.count;
            default: return OUTSIDE;
        }
    }

    public int guest(int g, int what) {
        if (!table.hasGuest(g)) {
            return UNKNOWN;
        }
        switch (what) {
            case 0: return table.pride(g);
            case 1: return table.claimCount(g);
            case 2: return night.said(g);
            case 3: return night.toldBy(g);
            case 4: return night.toldAt(g);
            case 5: return table.wrongAt(g);
            default: return OUTSIDE;
        }
    }

    public int claim(int g, int k, int what) {
        if (!table.hasGuest(g)) {
            return UNKNOWN;
        }
        if (isNoClaimNumber(k) || what < 0 || what > 1) {
            return OUTSIDE;
        }
        return what == 0 ? table.topic(g, k) : table.bold(g, k);
    }

    public int host(int h, int what) {
        if (!table.hasHost(h)) {
            return UNKNOWN;
        }
        switch (what) {
            case 0: return table.kind(h);
            case 1: return table.noes(h);
            case 2: return night.noesLeft(h);
            default: return OUTSIDE;
        }
    }

    // ---- deeds

    public int say(int g) {
        if (!table.hasGuest(g)) {
            return UNKNOWN;
        }
        if (!night.canSpeak(table, g)) {
            return NOT;
        }
        past.remember(night);
        return night.speak(g);
    }

    public int no(int h, int g) {
        if (!table.hasHost(h) || !table.hasGuest(g)) {
            return UNKNOWN;
        }
        if (!night.canContradict(h, g)) {
            return NOT;
        }
        past.remember(night);
        return night.contradict(table, h, g);
    }

    public int share(int g, int q) {
        if (areNoTwoGuests(g, q)) {
            return UNKNOWN;
        }
        if (!night.canBeTold(g) || night.toldBy(q) == NONE) {
            return NOT;
        }
        past.remember(night);
        return night.shareNo(table, g, q);
    }

    public int bed(int g) {
        if (!table.hasGuest(g)) {
            return UNKNOWN;
        }
        if (!night.isUp(g)) {
            return NOT;
        }
        past.remember(night);
        return night.retire(g) ? 1 : 0;
    }

    public int hour(int n) {
        int refusal = refusalOfHours(n);
        if (refusal != 0) {
            return refusal;
        }
        for (int i = 0; i < n; i++) {
            past.remember(night);
            night.passHour(table);
        }
        return night.hours();
    }

    public int anew() {
        if (!table.there) {
            return NOT;
        }
        if (night.evenings() >= MOST_EVENINGS) {
            return FULL;
        }
        past.remember(night);
        night.passEvening(table);
        return night.evenings();
    }

    public int drift(int n) {
        int refusal = refusalOfHours(n);
        if (refusal != 0) {
            return refusal;
        }
        for (int i = 0; i < n; i++) {
            past.remember(night);
            draws.deed(table, night);
            night.passHour(table);
        }
        return night.hours();
    }

    public int undo(int n) {
        if (n < 1 || n > Past.MOST) {
            return OUTSIDE;
        }
        if (n > past.count) {
            return NOT;
        }
        past.giveBack(night, n);
        return night.hours();
    }

    // ---- tried

    public int joy(int g, int h, int k) {
        if (!table.hasGuest(g) || !table.hasHost(h)) {
            return UNKNOWN;
        }
        if (isNoClaimNumber(k)) {
            return OUTSIDE;
        }
        return table.joyOf(g, h, k);
    }

    public int best(int g, int what) {
        if (!table.hasGuest(g)) {
            return UNKNOWN;
        }
        if (what < 0 || what > 2) {
            return OUTSIDE;
        }
        pick.seek(table, night, g);
        if (what == 0) {
            return pick.most;
        }
        return what == 1 ? pick.atClaim : pick.byHost;
    }

    public int plan(int g) {
        if (g != NONE && !table.hasGuest(g)) {
            return UNKNOWN;
        }
        planner.seek(table, night);
        return g == NONE ? planner.most : planner.hostOf(g);
    }

    public int line(int g, int h) {
        if (!table.hasGuest(g) || !table.hasHost(h)) {
            return UNKNOWN;
        }
        waiting.weigh(table, g, h, night.said(g));
        return waiting.worthOfAll();
    }

    public int now(int g, int h, int k) {
        if (!table.hasGuest(g) || !table.hasHost(h)) {
            return UNKNOWN;
        }
        if (isNoClaimNumber(k)) {
            return OUTSIDE;
        }
        if (k < night.said(g) || !table.hasClaim(g, k)) {
            return NOT;
        }
        waiting.weigh(table, g, h, night.said(g));
        return waiting.isWorthIt(k) ? 1 : 0;
    }

    public int agree(int g, int q) {
        if (areNoTwoGuests(g, q)) {
            return UNKNOWN;
        }
        return table.topicsOf(g) & table.topicsOf(q);
    }

    public int boldest(int topic) {
        return isNoTopic(topic) ? OUTSIDE : table.boldestGuest(topic);
    }

    public int dry(int n, int q) {
        if (n < 0 || n > 60 || q < 0 || q > 100) {
            return OUTSIDE;
        }
        long odds = BILLION;
        for (int i = 0; i < n; i++) {
            odds = odds * q / 100;
        }
        return (int) odds;
    }

    // ---- what was heard

    public int hear(int topic, boolean claims) {
        if (isNoTopic(topic)) {
            return OUTSIDE;
        }
        return ear.note(topic, claims) ? ear.count : FULL;
    }

    public int couldBe() {
        return ear.whoFits(table);
    }

    public int ask() {
        return ear.bestTopic(table);
    }

    public int write(int g, int h) {
        if (!table.hasGuest(g) || h != NONE && !table.hasHost(h)) {
            return UNKNOWN;
        }
        return book.enter(g, h) ? book.count : FULL;
    }

    public int judge() {
        return book.firstFalse(night);
    }

    public int tear() {
        int had = ear.count + book.count;
        ear.count = 0;
        book.count = 0;
        return had;
    }

    // ---- images

    public int seed(int v) {
        if (v < 0) {
            return OUTSIDE;
        }
        int was = draws.seedNow;
        draws.seedNow = v;
        return was;
    }

    public int keep(int i) {
        if (isNoImage(i)) {
            return UNKNOWN;
        }
        imageAt(i).take(night, draws);
        past.forget();
        return 1;
    }

    public int goBack(int i) {
        if (isNoImage(i)) {
            return UNKNOWN;
        }
        Image image = imageAt(i);
        if (!image.kept) {
            return NOT;
        }
        image.putBack(night, draws);
        past.forget();
        return 1;
    }

    // ---- what is looked at ahead of a call

    private static boolean isNoClaimNumber(int k) {
        return k < 0 || k >= MOST_CLAIMS;
    }

    private static boolean isNoTopic(int topic) {
        return topic < 0 || topic >= TOPICS;
    }

    private static boolean isNoImage(int i) {
        return i != 0 && i != 1;
    }

    private boolean areNoTwoGuests(int g, int q) {
        return !table.hasGuest(g) || !table.hasGuest(q) || g == q;
    }

    private Image imageAt(int i) {
        return i == 0 ? firstImage : secondImage;
    }

    /** The refusal of n hours, with draws or without; 0: they can pass. */
    private int refusalOfHours(int n) {
        if (n < 1 || n > MOST_HOURS_A_CALL) {
            return OUTSIDE;
        }
        if (!table.there) {
            return NOT;
        }
        return night.hours() > MOST_HOURS ? FULL : 0;
    }

    /** What a text tells: guests, hosts and what is true. No deed changes it. */
    private static final class Table {
        private boolean there;
        private int truths;
        private int guests;
        private int hosts;
        private final int[] prides = new int[MOST_GUESTS];
        private final int[] claimCounts = new int[MOST_GUESTS];
        private final int[] topics = new int[MOST_GUESTS * MOST_CLAIMS];
        private final int[] bolds = new int[MOST_GUESTS * MOST_CLAIMS];
        private final int[] topicSets = new int[MOST_GUESTS];
        private final int[] kinds = new int[MOST_HOSTS];
        private final int[] noNumbers = new int[MOST_HOSTS];

        private void clear() {
            there = false;
            truths = 0;
            guests = 0;
            hosts = 0;
        }

        private void addGuest(int pride) {
            if (guests >= MOST_GUESTS) {
                return;
            }
            prides[guests] = pride;
            claimCounts[guests] = 0;
            topicSets[guests] = 0;
            guests++;
        }

        private void addClaimToLastGuest(int number) {
            int g = guests - 1;
            if (!hasGuest(g) || claimCounts[g] >= MOST_CLAIMS) {
                return;
            }
            int place = g * MOST_CLAIMS + claimCounts[g];
            topics[place] = number / 10;
            bolds[place] = number % 10;
            topicSets[g] |= 1 << topics[place];
            claimCounts[g]++;
        }

        private void addHost(int kind, int noes) {
            if (hosts >= MOST_HOSTS) {
                return;
            }
            kinds[hosts] = kind;
            noNumbers[hosts] = noes;
            hosts++;
        }

        private boolean hasGuest(int g) {
            return g >= 0 && g < guests;
        }

        private boolean hasHost(int h) {
            return h >= 0 && h < hosts;
        }

        private boolean hasClaim(int g, int k) {
            return g >= 0 && g < guests && k >= 0 && k < claimCounts[g];
        }

        private int pride(int g) {
            return hasGuest(g) ? prides[g] : 0;
        }

        private int claimCount(int g) {
            return hasGuest(g) ? claimCounts[g] : 0;
        }

        private int topic(int g, int k) {
            return hasClaim(g, k) ? topics[g * MOST_CLAIMS + k] : NONE;
        }

        private int bold(int g, int k) {
            return hasClaim(g, k) ? bolds[g * MOST_CLAIMS + k] : NONE;
        }

        private int kind(int h) {
            return hasHost(h) ? kinds[h] : NONE;
        }

        private int noes(int h) {
            return hasHost(h) ? noNumbers[h] : 0;
        }

        private boolean isTrue(int topic) {
            return (truths >> topic & 1) != 0;
        }

        /** JOY as if no claim was said ahead; NONE where there is no such claim or host. */
        private int joyWithNoneAhead(int g, int h, int k) {
            if (!hasClaim(g, k) || !hasHost(h)) {
                return NONE;
            }
            int place = g * MOST_CLAIMS + k;
            boolean isTrue = isTrue(topics[place]);
            int joy = joyByKind(kinds[h], bolds[place], isTrue);
            return isTrue ? joy + prides[g] : joy;
        }

        private static int joyByKind(int kind, int bold, boolean isTrue) {
            switch (kind) {
                case 0: return bold;
                case 1: return bold / 2;
                case 2: return isTrue ? Math.max(0, bold - 3) : bold + 5;
                default: return 9 - bold;
            }
        }

        /** JOY; claims are said in their order, so k of them are ahead of claim k. */
        private int joyOf(int g, int h, int k) {
            int joy = joyWithNoneAhead(g, h, k);
            return joy == NONE ? NONE : joy + k;
        }

        /** The most JOY by host h at a claim from the told one on; NONE: there is none. */
        private int mostJoyFrom(int first, int g, int h) {
            int most = NONE;
            for (int k = Math.max(0, first); k < MOST_CLAIMS; k++) {
                most = Math.max(most, joyOf(g, h, k));
            }
            return most;
        }

        private int wrongAt(int g) {
            int count = claimCount(g);
            for (int k = 0; k < count; k++) {
                if (!isTrue(topic(g, k))) {
                    return k;
                }
            }
            return NONE;
        }

        private int whoIsRight() {
            int set = 0;
            for (int g = 0; g < guests; g++) {
                if (wrongAt(g) == NONE) {
                    set |= 1 << g;
                }
            }
            return set;
        }

        private int topicsOf(int g) {
            return hasGuest(g) ? topicSets[g] : 0;
        }

        private boolean claimsTopic(int g, int topic) {
            return (topicsOf(g) >> topic & 1) != 0;
        }

        private int topicsOfNobody() {
            int set = (1 << TOPICS) - 1;
            for (int g = 0; g < guests; g++) {
                set &= ~topicsOf(g);
            }
            return set;
        }

        private int boldestGuest(int topic) {
            int boldest = NONE;
            int most = NONE;
            for (int g = 0; g < guests; g++) {
                int bold = boldnessOn(g, topic);
                if (bold > most) {
                    most = bold;
                    boldest = g;
                }
            }
            return boldest;
        }

        private int boldnessOn(int g, int topic) {
            int most = NONE;
            int count = claimCount(g);
            for (int k = 0; k < count; k++) {
                if (topic(g, k) == topic) {
                    most = Math.max(most, bold(g, k));
                }
            }
            return most;
        }
    }

    /** THE TEXT, and how it is read up to its first fault. */
    private static final class Reader {
        private static final int MOST_LETTERS = 240;
        private static final int MOST_FIGURES = 3;
        private static final int OUT_OF_PLACE = 1;
        private static final int BAD_NUMBER = 2;
        private static final int TOO_MANY = 3;
        private static final int THE_END = -1;

        private final int[] letters = new int[MOST_LETTERS];
        private int length;
        private int at;
        private int faultNumber;
        private int faultPlace = NONE;

        private boolean append(int letter) {
            if (length >= MOST_LETTERS) {
                return false;
            }
            letters[length] = letter;
            length++;
            return true;
        }

        /** The text is used up by it, whether there is a fault or not. */
        private void readInto(Table table) {
            table.clear();
            at = 0;
            faultNumber = 0;
            faultPlace = NONE;
            for (int clause = 0; clause < MOST_LETTERS && isMoreToRead(); clause++) {
                readClause(table);
            }
            length = 0;
        }

        private boolean isMoreToRead() {
            return faultNumber == 0 && nextWord() != THE_END;
        }

        private void readClause(Table table) {
            int word = nextWord();
            if (!table.there) {
                if (word == 't') {
                    readTruths(table);
                } else {
                    blame(OUT_OF_PLACE, at);
                }
            } else if (word == 'g') {
                readGuest(table);
            } else if (word == 'h') {
                readHost(table);
            } else {
                blame(word == 't' ? TOO_MANY : OUT_OF_PLACE, at);
            }
        }

        private void readTruths(Table table) {
            at++;
            table.there = true;
            table.truths = readNumber(255);
            readEndOfClause();
        }

        private void readGuest(Table table) {
            if (table.guests >= MOST_GUESTS) {
                blame(TOO_MANY, at);
                return;
            }
            at++;
            table.addGuest(readNumber(9));
            table.addClaimToLastGuest(readNumber(79));
            for (int k = 1; k < MOST_CLAIMS && nextWord() == ','; k++) {
                at++;
                table.addClaimToLastGuest(readNumber(79));
            }
            readEndOfClause();
        }

        private void readHost(Table table) {
            if (table.hosts >= MOST_HOSTS) {
                blame(TOO_MANY, at);
                return;
            }
            at++;
            int kind = readNumber(3);
            table.addHost(kind, readNumber(9));
            readEndOfClause();
        }

        private void readEndOfClause() {
            if (nextWord() == ';') {
                at++;
            } else {
                blame(OUT_OF_PLACE, at);
            }
        }

        /** A number of 0 to most; 0 with a fault, as then nobody looks at it. */
        private int readNumber(int most) {
            int first = nextWord();
            if (!isFigure(first)) {
                blame(OUT_OF_PLACE, at);
                return 0;
            }
            int start = at;
            int value = 0;
            while (at < length && isFigure(letterAt(at))) {
                // Cut off far above all bounds: many figures must not run over.
                value = Math.min(1000, value * 10 + letterAt(at) - '0');
                at++;
            }
            if (at - start > MOST_FIGURES || value > most) {
                blame(BAD_NUMBER, start);
                return 0;
            }
            return value;
        }

        /** The letter behind the blanks, where at stands then. */
        private int nextWord() {
            while (at < length && letterAt(at) == ' ') {
                at++;
            }
            return letterAt(at);
        }

        private int letterAt(int place) {
            return place >= 0 && place < length && place < MOST_LETTERS ? letters[place] : THE_END;
        }

        private static boolean isFigure(int letter) {
            return letter >= '0' && letter <= '9';
        }

        /** Only the first fault counts: what is read behind it means nothing. */
        private void blame(int number, int place) {
            if (faultNumber == 0) {
                faultNumber = number;
                faultPlace = place;
            }
        }
    }

    /**
     * All of section 2 in one row of numbers, so that what can be undone and
     * the images copy it at one stroke.
     */
    private static final class Night {
        private static final int SAID = 0;
        private static final int TOLD_BY = SAID + MOST_GUESTS;
        private static final int TOLD_AT = TOLD_BY + MOST_GUESTS;
        private static final int NOES_LEFT = TOLD_AT + MOST_GUESTS;
        private static final int UP = NOES_LEFT + MOST_HOSTS;
        private static final int WALKING = UP + 1;
        private static final int GLAD = WALKING + 1;
        private static final int INSULTS = GLAD + 1;
        private static final int HOURS = INSULTS + 1;
        private static final int EVENINGS = HOURS + 1;
        private static final int SIZE = EVENINGS + 1;
        private static final int MOST_COUNTED = 999999;

        private final int[] row = new int[SIZE];

        private void begin(Table table) {
            row[GLAD] = 0;
            row[INSULTS] = 0;
            row[HOURS] = 0;
            row[EVENINGS] = 0;
            seatAll(table);
        }

        private void passEvening(Table table) {
            row[EVENINGS]++;
            seatAll(table);
        }

        private void seatAll(Table table) {
            for (int g = 0; g < MOST_GUESTS; g++) {
                row[SAID + g] = 0;
                row[TOLD_BY + g] = NONE;
                row[TOLD_AT + g] = NONE;
            }
            for (int h = 0; h < MOST_HOSTS; h++) {
                row[NOES_LEFT + h] = table.noes(h);
            }
            row[UP] = (1 << table.guests) - 1;
            row[WALKING] = 0;
        }

        private static boolean isSeat(int g) {
            return g >= 0 && g < MOST_GUESTS;
        }

        private int said(int g) {
            return isSeat(g) ? row[SAID + g] : 0;
        }

        private int toldBy(int g) {
            return isSeat(g) ? row[TOLD_BY + g] : NONE;
        }

        private int toldAt(int g) {
            return isSeat(g) ? row[TOLD_AT + g] : NONE;
        }

        private int noesLeft(int h) {
            return h >= 0 && h < MOST_HOSTS ? row[NOES_LEFT + h] : 0;
        }

        private int whoIsUp() {
            return row[UP];
        }

        private int whoWalks() {
            return row[WALKING];
        }

        private int glad() {
            return row[GLAD];
        }

        private int insults() {
            return row[INSULTS];
        }

        private int hours() {
            return row[HOURS];
        }

        private int evenings() {
            return row[EVENINGS];
        }

        private boolean isUp(int g) {
            return isSeat(g) && (row[UP] >> g & 1) != 0;
        }

        /** The first claim at which he can still be told: the one he said last stands open. */
        private int firstOpenClaim(int g) {
            return Math.max(0, said(g) - 1);
        }

        private boolean canSpeak(Table table, int g) {
            return isUp(g) && said(g) < table.claimCount(g);
        }

        private int speak(int g) {
            if (!isSeat(g)) {
                return NONE;
            }
            row[SAID + g]++;
            return row[SAID + g] - 1;
        }

        private boolean canBeTold(int g) {
            return isUp(g) && said(g) > 0 && toldBy(g) == NONE;
        }

        private boolean canContradict(int h, int g) {
            return noesLeft(h) > 0 && canBeTold(g);
        }

        private int contradict(Table table, int h, int g) {
            int joy = tell(table, h, g);
            if (noesLeft(h) > 0) {
                row[NOES_LEFT + h]--;
            }
            addGlad(joy);
            return joy;
        }

        private int shareNo(Table table, int g, int q) {
            int half = tell(table, toldBy(q), g) / 2;
            addGlad(half);
            return half;
        }

        private int tell(Table table, int h, int g) {
            if (!isSeat(g)) {
                return 0;
            }
            int k = firstOpenClaim(g);
            row[TOLD_BY + g] = h;
            row[TOLD_AT + g] = k;
            return table.joyOf(g, h, k);
        }

        private void addGlad(int joy) {
            row[GLAD] = Math.min(MOST_COUNTED, row[GLAD] + joy);
        }

        /** Whether he will walk. */
        private boolean retire(int g) {
            row[UP] &= ~(1 << g);
            if (toldBy(g) != NONE) {
                return false;
            }
            row[WALKING] |= 1 << g;
            row[INSULTS] = Math.min(MOST_COUNTED, row[INSULTS] + 1);
            return true;
        }

        private void passHour(Table table) {
            for (int g = 0; g < table.guests; g++) {
                // Who walks is not up yet, so he says nothing in the hour in which he comes down.
                if (canSpeak(table, g)) {
                    speak(g);
                }
            }
            row[UP] |= row[WALKING];
            row[WALKING] = 0;
            row[HOURS]++;
        }

        private int whoWasTold(Table table) {
            int set = 0;
            for (int g = 0; g < table.guests; g++) {
                if (toldBy(g) != NONE) {
                    set |= 1 << g;
                }
            }
            return set;
        }

        /** The whole JOY at the claim at which he was told, shared or not. */
        private int joyWhenTold(Table table, int g) {
            return table.joyOf(g, toldBy(g), toldAt(g));
        }

        private int whoWasToldMeanly(Table table) {
            int set = 0;
            for (int g = 0; g < table.guests; g++) {
                if (joyWhenTold(table, g) < table.mostJoyFrom(0, g, toldBy(g))) {
                    set |= 1 << g;
                }
            }
            return set;
        }

        private int leastPleased(Table table) {
            int who = NONE;
            int least = 0;
            for (int g = 0; g < table.guests; g++) {
                int joy = joyWhenTold(table, g);
                if (joy != NONE && (who == NONE || joy < least)) {
                    who = g;
                    least = joy;
                }
            }
            return who;
        }
    }

    /** How it was ahead of the latest deeds: a ring, in which the newest takes the oldest one's place. */
    private static final class Past {
        private static final int MOST = 30;

        private final int[] rows = new int[MOST * Night.SIZE];
        private int next;
        private int count;

        private void forget() {
            count = 0;
        }

        private void remember(Night night) {
            System.arraycopy(night.row, 0, rows, next * Night.SIZE, Night.SIZE);
            next = (next + 1) % MOST;
            count = Math.min(MOST, count + 1);
        }

        private void giveBack(Night night, int n) {
            if (n < 1 || n > count) {
                return;
            }
            next = (next + MOST - n) % MOST;
            count -= n;
            System.arraycopy(rows, next * Night.SIZE, night.row, 0, Night.SIZE);
        }
    }

    /** All of section 2 and THE SEED, kept to go on from. */
    private static final class Image {
        private final int[] row = new int[Night.SIZE];
        private int seedThen;
        private boolean kept;

        private void take(Night night, Draws draws) {
            System.arraycopy(night.row, 0, row, 0, Night.SIZE);
            seedThen = draws.seedNow;
            kept = true;
        }

        private void putBack(Night night, Draws draws) {
            System.arraycopy(row, 0, night.row, 0, Night.SIZE);
            draws.seedNow = seedThen;
        }
    }

    /** THE SEED, and what is done by its draws. */
    private static final class Draws {
        private int seedNow;

        private int draw(int n) {
            seedNow = (int) (seedNow * 1103515245L + 12345L & 0x7fffffffL);
            return n > 0 ? seedNow / 65536 % n : 0;
        }

        /** What comes ahead of an hour; all three draws are made, whatever the first one says. */
        private void deed(Table table, Night night) {
            if (table.guests == 0 || table.hosts == 0) {
                return;
            }
            int deed = draw(4);
            int g = draw(table.guests);
            int h = draw(table.hosts);
            if (deed <= 1 && night.canContradict(h, g)) {
                night.contradict(table, h, g);
            } else if (deed == 2 && night.isUp(g)) {
                night.retire(g);
            }
        }
    }

    /** BEST of a guest. */
    private static final class Pick {
        private int most;
        private int atClaim;
        private int byHost;

        private void seek(Table table, Night night, int g) {
            most = NONE;
            atClaim = NONE;
            byHost = NONE;
            if (night.toldBy(g) != NONE) {
                return;
            }
            int count = table.claimCount(g);
            for (int k = night.firstOpenClaim(g); k < count; k++) {
                for (int h = 0; h < table.hosts; h++) {
                    if (night.noesLeft(h) > 0 && table.joyOf(g, h, k) > most) {
                        most = table.joyOf(g, h, k);
                        atClaim = k;
                        byHost = h;
                    }
                }
            }
        }
    }

    /**
     * PLAN: all plans in their order, guest by guest; a later one takes the place
     * only with more JOY, so that of like ones the first stays.
     */
    private static final class Planner {
        private final int[] gains = new int[MOST_GUESTS * MOST_HOSTS];
        // The most that the guests from g on could bring if noes never ran out.
        private final int[] hopes = new int[MOST_GUESTS + 1];
        private final int[] left = new int[MOST_HOSTS];
        private final int[] tried = new int[MOST_GUESTS];
        private final int[] chosen = new int[MOST_GUESTS];
        private int guests;
        private int hosts;
        private int most;

        private void seek(Table table, Night night) {
            guests = Math.min(MOST_GUESTS, table.guests);
            hosts = Math.min(MOST_HOSTS, table.hosts);
            most = NONE;
            for (int h = 0; h < hosts; h++) {
                left[h] = night.noesLeft(h);
            }
            for (int g = 0; g < guests; g++) {
                weighGuest(table, night, g);
            }
            sumHopes();
            choose(0, 0);
        }

        private void weighGuest(Table table, Night night, int g) {
            boolean isTold = night.toldBy(g) != NONE;
            int first = night.firstOpenClaim(g);
            for (int h = 0; h < hosts; h++) {
                boolean canBe = !isTold && left[h] > 0;
                gains[g * MOST_HOSTS + h] = canBe ? table.mostJoyFrom(first, g, h) : NONE;
            }
        }

        private void sumHopes() {
            hopes[guests] = 0;
            for (int g = guests - 1; g >= 0; g--) {
                int hope = 0;
                for (int h = 0; h < hosts; h++) {
                    hope = Math.max(hope, gains[g * MOST_HOSTS + h]);
                }
                hopes[g] = hopes[g + 1] + hope;
            }
        }

        /** Goes one level deeper for each guest, so seven at most. */
        private void choose(int g, int sum) {
            if (g < 0 || g > guests || sum + hopes[g] <= most) {
                return;
            }
            if (g == guests) {
                most = sum;
                System.arraycopy(tried, 0, chosen, 0, guests);
                return;
            }
            for (int h = 0; h < hosts; h++) {
                int gain = gains[g * MOST_HOSTS + h];
                if (gain != NONE && left[h] > 0) {
                    left[h]--;
                    tried[g] = h;
                    choose(g + 1, sum + gain);
                    left[h]++;
                }
            }
            tried[g] = NONE;
            choose(g + 1, sum);
        }

        private int hostOf(int g) {
            return g >= 0 && g < guests ? chosen[g] : NONE;
        }
    }

    /** LINE and NOW: what each set of claims not said yet comes to, from the last claim back. */
    private static final class Waiting {
        private final int[] worths = new int[1 << MOST_CLAIMS];
        // A thousand times the JOY of each claim left: bit b of a set stands for claim first + b.
        private final int[] joys = new int[MOST_CLAIMS];
        private int first;
        private int count;

        private void weigh(Table table, int g, int h, int said) {
            first = said;
            count = Math.max(0, Math.min(MOST_CLAIMS, table.claimCount(g) - said));
            for (int b = 0; b < count; b++) {
                joys[b] = 1000 * table.joyWithNoneAhead(g, h, first + b);
            }
            worths[0] = 0;
            for (int set = 1; set < 1 << count; set++) {
                worths[set] = meanOf(set);
            }
        }

        private int meanOf(int set) {
            int sum = 0;
            int parts = 0;
            for (int b = 0; b < count; b++) {
                if ((set >> b & 1) != 0) {
                    sum += Math.max(joys[b], worths[set & ~(1 << b)]);
                    parts++;
                }
            }
            return parts == 0 ? 0 : sum / parts;
        }

        private int worthOfAll() {
            return worths[(1 << count) - 1];
        }

        private boolean isWorthIt(int k) {
            int b = k - first;
            if (b < 0 || b >= count) {
                return false;
            }
            int all = (1 << count) - 1;
            return joys[b] >= worths[all & ~(1 << b)];
        }
    }

    /** What was HEARD of an unknown guest. */
    private static final class Ear {
        private static final int MOST = 6;

        private final int[] topics = new int[MOST];
        private final boolean[] claimed = new boolean[MOST];
        private int count;

        private boolean note(int topic, boolean claims) {
            if (count >= MOST) {
                return false;
            }
            topics[count] = topic;
            claimed[count] = claims;
            count++;
            return true;
        }

        private int whoFits(Table table) {
            int set = 0;
            for (int g = 0; g < table.guests; g++) {
                if (fits(table, g)) {
                    set |= 1 << g;
                }
            }
            return set;
        }

        private boolean fits(Table table, int g) {
            for (int i = 0; i < count; i++) {
                if (table.claimsTopic(g, topics[i]) != claimed[i]) {
                    return false;
                }
            }
            return true;
        }

        private int bestTopic(Table table) {
            int fitting = whoFits(table);
            int best = NONE;
            // A topic that leaves all of them together parts nobody.
            int least = Integer.bitCount(fitting);
            for (int topic = 0; topic < TOPICS; topic++) {
                int greater = greaterPart(table, fitting, topic);
                if (greater < least) {
                    least = greater;
                    best = topic;
                }
            }
            return best;
        }

        private static int greaterPart(Table table, int fitting, int topic) {
            int claiming = 0;
            for (int g = 0; g < table.guests; g++) {
                if ((fitting >> g & 1) != 0 && table.claimsTopic(g, topic)) {
                    claiming++;
                }
            }
            return Math.max(claiming, Integer.bitCount(fitting) - claiming);
        }
    }

    /** THE BOOK of the visitors. */
    private static final class Book {
        private static final int MOST = 20;

        private final int[] guests = new int[MOST];
        private final int[] hosts = new int[MOST];
        private int count;

        private boolean enter(int g, int h) {
            if (count >= MOST) {
                return false;
            }
            guests[count] = g;
            hosts[count] = h;
            count++;
            return true;
        }

        private int firstFalse(Night night) {
            for (int i = 0; i < count; i++) {
                if (night.toldBy(guests[i]) != hosts[i]) {
                    return i;
                }
            }
            return NONE;
        }
    }
}
