/** A post that brings each letter first to whoever it is about; README.md says how it is used. */
public final class FrankPost {
    public static final int BAD = -1, STATE = -2, FULL = -3, NONE = -4;

    private static final int MOST_PEOPLE = 5, MOST_LETTERS = 6, MOST_SEEN = 6, MOST_BYTES = 160;
    private static final int KINDS = 4, LAST_DOOR = 9, LAST_MOOD = 20, LAST_PACE = 4, FIRST_PACE = 2;
    private static final int NO_TONE = 9, LAST_TONE = 18, TONES = 19;
    private static final int PLAIN = 0, PROUD = 1, KIND = 2, SLY = 3;
    private static final int TO_SUBJECT = 0, TO_READER = 1, CAME = 2, KEPT = 3;
    private static final int LAST_RUN = 30, LAST_AHEAD = 60, LAST_SEEN_DAY = 20, LAST_LUCK_DAY = 8, DAY_LIMIT = 1000;
    private static final int IMAGES = 2, SHEETS = 4, LAST_LANE = 2, MOST_CELLS = 40, CELLS_A_LETTER = 4, LAST_READ = 10;
    private static final int NULL_FAULT = 1, INDEX_FAULT = 2, CAST_FAULT = 3, SIZE_FAULT = 4;

    private final Post now = new Post();
    // What is asked BY DAYS is tried on this one, so that no call makes a copy of its own.
    private final Post trial = new Post();
    private final Choice choice = new Choice();
    private final Tape tape = new Tape();
    private final Post[] images = new Post[IMAGES];
    private final boolean[] imageKept = new boolean[IMAGES];
    private final Sheet[] sheets = new Sheet[SHEETS];
    private final int[] moodTable = new int[TONES * (LAST_SEEN_DAY + 1) * MOST_PEOPLE];
    private final int[] tally = new int[LAST_MOOD + 1];
    private int textFault;
    private int readFault;

    public FrankPost() {
        for (int k = 0; k < IMAGES; k++) {
            images[k] = new Post();
        }
        for (int k = 0; k < SHEETS; k++) {
            sheets[k] = new Sheet();
        }
    }

    // ---- the text

    public int feed(int c) {
        if (!within(c, 0, 127)) {
            return BAD;
        }
        if (tape.length >= MOST_BYTES) {
            return FULL;
        }
        tape.bytes[tape.length] = c;
        tape.length++;
        return tape.length;
    }

    public int end(int n) {
        if (!within(n, 0, tape.length)) {
            return BAD;
        }
        int had = tape.length;
        tape.length = n;
        return had;
    }

    public int text() {
        tape.tellAll();
        tape.length = 0;
        textFault = tape.fault;
        if (textFault != 0) {
            return -10 - tape.faultPlace;
        }
        now.copyFrom(tape.told);
        for (int k = 0; k < IMAGES; k++) {
            imageKept[k] = false;
        }
        return tape.lines;
    }

    public int fault() {
        return textFault;
    }

    public int rule(int what) {
        switch (what) {
            case 0:
                return now.people;
            case 1:
                return now.letters;
            case 2:
                return now.today;
            case 3:
                return now.doorsADay;
            case 4:
                return now.moods();
            case 5:
                return now.lettersOfLeg(CAME);
            case 6:
                return now.lettersOfLeg(KEPT);
            default:
                return BAD;
        }
    }

    public int one(int p, int what) {
        if (!now.hasOne(p)) {
            return BAD;
        }
        switch (what) {
            case 0:
                return now.kindOf[p];
            case 1:
                return now.doorOf[p];
            case 2:
                return now.moodOf[p];
            case 3:
                return now.lettersTowards(p);
            default:
                return BAD;
        }
    }

    public int letter(int i, int what) {
        if (!now.hasLetter(i)) {
            return BAD;
        }
        switch (what) {
            case 0:
                return now.fromOf[i];
            case 1:
                return now.toOf[i];
            case 2:
                return now.aboutOf[i];
            case 3:
                return now.toneOf[i];
            case 4:
                return now.atOf[i];
            case 5:
                return now.legOf[i];
            default:
                return BAD;
        }
    }

    public int feels(int p, int tone) {
        if (!now.hasOne(p) || !within(tone, 0, LAST_TONE)) {
            return BAD;
        }
        return 40 + felt(now.kindOf[p], tone);
    }

    // ---- what is changed

    public int alter(int p, int what, int v) {
        if (!now.hasOne(p)) {
            return BAD;
        }
        switch (what) {
            case 0:
                return put(now.kindOf, p, v, KINDS - 1);
            case 1:
                return put(now.doorOf, p, v, LAST_DOOR);
            case 2:
                return put(now.moodOf, p, v, LAST_MOOD);
            default:
                return BAD;
        }
    }

    public int tone(int i, int v) {
        if (!now.hasLetter(i) || !within(v, 0, LAST_TONE)) {
            return BAD;
        }
        if (!now.onItsWay(i)) {
            return STATE;
        }
        return put(now.toneOf, i, v, LAST_TONE);
    }

    public int pace(int v) {
        if (!within(v, 1, LAST_PACE)) {
            return BAD;
        }
        int was = now.doorsADay;
        now.doorsADay = v;
        return was;
    }

    public int write(int from, int to, int about, int tone) {
        if (!now.hasOne(from) || !now.hasOne(to) || !now.hasOne(about) || !within(tone, 0, LAST_TONE)) {
            return BAD;
        }
        if (now.letters >= MOST_LETTERS) {
            return FULL;
        }
        now.addLetter(from, to, about, tone);
        return now.letters;
    }

    public int burn(int n) {
        if (!within(n, 0, now.letters)) {
            return BAD;
        }
        int were = now.letters;
        now.letters = n;
        return were;
    }

    // ---- days

    public int days(int n) {
        if (!within(n, 0, LAST_RUN)) {
            return BAD;
        }
        if (now.today + n >= DAY_LIMIT) {
            return FULL;
        }
        int before = now.howManyCame();
        now.pass(n);
        return now.howManyCame() - before;
    }

    public int runs(int n, int what) {
        if (!within(n, 0, LAST_AHEAD) || !within(what, 0, 3)) {
            return BAD;
        }
        trial.copyFrom(now);
        if (what == 3) {
            return trial.passAndCountIdle(n);
        }
        trial.pass(n);
        if (what == 0) {
            return trial.moods();
        }
        return trial.lettersOfLeg(what == 1 ? CAME : KEPT);
    }

    public int ahead(int p, int n) {
        if (!now.hasOne(p) || !within(n, 0, LAST_AHEAD)) {
            return BAD;
        }
        trial.copyFrom(now);
        trial.pass(n);
        return trial.moodOf[p];
    }

    public int comes(int i) {
        if (!now.hasLetter(i)) {
            return BAD;
        }
        trial.copyFrom(now);
        for (int d = 0; d <= LAST_AHEAD; d++) {
            if (trial.legOf[i] == CAME) {
                return d;
            }
            trial.pass(1);
        }
        return NONE;
    }

    // ---- what is best

    public int say(int i, int n, int what) {
        if (!now.hasLetter(i) || !isQuestion(n, what)) {
            return BAD;
        }
        if (!now.onItsWay(i)) {
            return STATE;
        }
        choice.startAbove(-1);
        for (int v = 0; v <= LAST_TONE; v++) {
            trial.copyFrom(now);
            trial.toneOf[i] = v;
            choice.weigh(v, trial.moodsBehind(n));
        }
        return choice.told(what);
    }

    public int need(int i, int n) {
        if (!now.hasLetter(i) || !within(n, 0, LAST_AHEAD)) {
            return BAD;
        }
        if (!now.onItsWay(i)) {
            return STATE;
        }
        for (int v = 0; v <= LAST_TONE; v++) {
            trial.copyFrom(now);
            trial.toneOf[i] = v;
            trial.pass(n);
            if (trial.legOf[i] == CAME) {
                return v;
            }
        }
        return NONE;
    }

    public int about(int i, int n, int what) {
        if (!now.hasLetter(i) || !isQuestion(n, what)) {
            return BAD;
        }
        if (now.legOf[i] != TO_SUBJECT) {
            return STATE;
        }
        choice.startAbove(-1);
        for (int p = 0; p < now.people; p++) {
            trial.copyFrom(now);
            trial.aboutOf[i] = p;
            choice.weigh(p, trial.moodsBehind(n));
        }
        return choice.told(what);
    }

    public int swap(int n, int what) {
        if (!isQuestion(n, what)) {
            return BAD;
        }
        choice.startAbove(moodsAsItIs(n));
        for (int a = 0; a < now.people; a++) {
            for (int b = a + 1; b < now.people; b++) {
                trial.copyFrom(now);
                trial.doorOf[a] = now.doorOf[b];
                trial.doorOf[b] = now.doorOf[a];
                choice.weigh(10 * a + b, trial.moodsBehind(n));
            }
        }
        return choice.told(what);
    }

    public int stop(int n, int what) {
        if (!isQuestion(n, what)) {
            return BAD;
        }
        choice.startAbove(moodsAsItIs(n));
        for (int i = 0; i < now.letters; i++) {
            if (now.onItsWay(i)) {
                trial.copyFrom(now);
                trial.legOf[i] = KEPT;
                choice.weigh(i, trial.moodsBehind(n));
            }
        }
        return choice.told(what);
    }

    public int kind(int p, int n, int what) {
        if (!now.hasOne(p) || !isQuestion(n, what)) {
            return BAD;
        }
        choice.startAbove(-1);
        for (int v = 0; v < KINDS; v++) {
            trial.copyFrom(now);
            trial.kindOf[p] = v;
            choice.weigh(v, trial.moodsBehind(n));
        }
        return choice.told(what);
    }

    // ---- days without a post

    public long luck(int v, int i, int n, int what) {
        if (!now.hasLetter(i) || !isOdds(v, n, what)) {
            return BAD;
        }
        trial.copyFrom(now);
        long sum = 0;
        for (int posts = 0; posts <= n; posts++) {
            if (trial.legOf[i] == CAME) {
                sum += weight(v, n, posts);
            }
            trial.pass(1);
        }
        return ofLowestTerms(sum, power(10, n), what);
    }

    public long mean(int v, int n, int what) {
        if (!isOdds(v, n, what)) {
            return BAD;
        }
        trial.copyFrom(now);
        long sum = 0;
        for (int posts = 0; posts <= n; posts++) {
            sum += weight(v, n, posts) * trial.moods();
            trial.pass(1);
        }
        return ofLowestTerms(sum, power(10, n), what);
    }

    // ---- from moods

    public int see(int n, int p, int v) {
        if (!within(n, 0, LAST_SEEN_DAY) || !now.hasOne(p) || !within(v, 0, LAST_MOOD)) {
            return BAD;
        }
        if (now.seen >= MOST_SEEN) {
            return FULL;
        }
        now.addSeen(n, p, v);
        return now.seen;
    }

    public int forget(int n) {
        if (!within(n, 0, now.seen)) {
            return BAD;
        }
        int were = now.seen;
        now.seen = n;
        return were;
    }

    public int kinds(int p) {
        if (!now.hasOne(p)) {
            return BAD;
        }
        int bits = 0;
        for (int v = 0; v < KINDS; v++) {
            trial.copyFrom(now);
            trial.kindOf[p] = v;
            if (trial.goesAsSeen()) {
                bits |= 1 << v;
            }
        }
        return bits;
    }

    public int tones(int i) {
        if (!now.hasLetter(i)) {
            return BAD;
        }
        if (!now.onItsWay(i)) {
            return STATE;
        }
        int bits = 0;
        for (int v = 0; v <= LAST_TONE; v++) {
            trial.copyFrom(now);
            trial.toneOf[i] = v;
            if (trial.goesAsSeen()) {
                bits |= 1 << v;
            }
        }
        return bits;
    }

    public int ask(int i, int what) {
        if (!now.hasLetter(i) || !within(what, 0, 1)) {
            return BAD;
        }
        if (!now.onItsWay(i)) {
            return STATE;
        }
        int left = tones(i);
        fillMoodTable(i, left);
        int best = NONE;
        int fewest = Integer.bitCount(left);
        for (int d = 0; d <= LAST_SEEN_DAY; d++) {
            for (int p = 0; p < now.people; p++) {
                int worst = mostOfOneMood(left, d, p);
                if (worst < fewest) {
                    best = 10 * d + p;
                    fewest = worst;
                }
            }
        }
        return best == NONE || what == 0 ? best : fewest;
    }

    // ---- by a seed

    public int drift(int seed, int n, int what) {
        if (!within(n, 1, LAST_AHEAD) || !within(what, 0, 1)) {
            return BAD;
        }
        if (now.letters <= 0) {
            return STATE;
        }
        trial.copyFrom(now);
        int came = 0;
        int s = seed;
        for (int d = 0; d < n; d++) {
            s = s * 1103515245 + 12345;
            int got = (s >>> 16) & 0x7fff;
            trial.writeAgain(got % now.letters, got / 8 % TONES);
            int before = trial.howManyCame();
            trial.pass(1);
            came += trial.howManyCame() - before;
        }
        return what == 0 ? trial.moods() : came;
    }

    // ---- images, sheets

    public int keep(int k) {
        if (!within(k, 0, IMAGES - 1)) {
            return BAD;
        }
        int was = imageKept[k] ? 1 : 0;
        images[k].copyFrom(now);
        imageKept[k] = true;
        return was;
    }

    public int back(int k) {
        if (!within(k, 0, IMAGES - 1)) {
            return BAD;
        }
        if (!imageKept[k]) {
            return STATE;
        }
        now.copyFrom(images[k]);
        return now.today;
    }

    public int sheet(int k, int lane, int n) {
        if (!within(k, 0, SHEETS - 1) || !within(lane, 0, LAST_LANE) || n > MOST_CELLS) {
            return BAD;
        }
        if (n < 0) {
            return -10 - SIZE_FAULT;
        }
        sheets[k].renew(lane, n);
        return 1;
    }

    public int lay(int k, int i, int v) {
        if (!within(k, 0, SHEETS - 1)) {
            return BAD;
        }
        int found = sheets[k].faultOfCells(i, 1);
        if (found != 0) {
            return -10 - found;
        }
        sheets[k].put(i, v);
        return 1;
    }

    public int read(int k, int lane, int f, int n) {
        if (!within(k, 0, SHEETS - 1) || !within(lane, 0, LAST_LANE) || !within(n, 0, LAST_READ)) {
            return BAD;
        }
        Sheet row = sheets[k];
        int before = now.letters;
        int came = 0;
        int found = 0;
        for (int i = 0; i < n && found == 0; i++) {
            int cell = f + CELLS_A_LETTER * i;
            found = row.faultOfLetter(lane, cell);
            if (found == 0) {
                int answer = write(row.cells[cell], row.cells[cell + 1], row.cells[cell + 2], row.cells[cell + 3]);
                if (answer < 0) {
                    now.letters = before;
                    return -20 - i;
                }
                came++;
            }
        }
        readFault = found;
        return came;
    }

    public int torn() {
        return readFault;
    }

    public int count(int what) {
        switch (what) {
            case 0:
                return now.seen;
            case 1:
                return (imageKept[0] ? 1 : 0) + (imageKept[1] ? 1 : 0);
            case 2:
                return tape.length;
            case 3:
                return sheets[0].isNothing() ? NONE : sheets[0].size;
            case 4:
                return sumOfFirst(now.toneOf, now.letters);
            case 5:
                return sumOfFirst(now.doorOf, now.people);
            default:
                return BAD;
        }
    }

    // ---- what the calls above have in common

    private static boolean within(int v, int least, int most) {
        return v >= least && v <= most;
    }

    private static boolean isQuestion(int n, int what) {
        return within(n, 0, LAST_AHEAD) && within(what, 0, 1);
    }

    private static boolean isOdds(int v, int n, int what) {
        return within(v, 0, 10) && within(n, 0, LAST_LUCK_DAY) && within(what, 0, 1);
    }

    private static int put(int[] row, int place, int v, int most) {
        if (!within(v, 0, most)) {
            return BAD;
        }
        int was = row[place];
        row[place] = v;
        return was;
    }

    private static int sumOfFirst(int[] row, int n) {
        int sum = 0;
        for (int j = 0; j < n; j++) {
            sum += row[j];
        }
        return sum;
    }

    private int moodsAsItIs(int n) {
        trial.copyFrom(now);
        return trial.moodsBehind(n);
    }

    private static int felt(int kind, int tone) {
        int t = tone - NO_TONE;
        switch (kind) {
            case PROUD:
                return 2 * t;
            case KIND:
                return t < 0 ? t / 2 : t;
            case SLY:
                return (t < 0 ? t / 2 : t) + 1;
            default:
                return t;
        }
    }

    private static boolean sendsOn(int kind, int tone) {
        switch (kind) {
            case PLAIN:
                return tone >= NO_TONE - 3;
            case PROUD:
                return tone >= NO_TONE;
            default:
                return true;
        }
    }

    private static int altered(int kind, int tone) {
        switch (kind) {
            case KIND:
                return tone + 1 > LAST_TONE ? LAST_TONE : tone + 1;
            case SLY:
                return tone + 2 > LAST_TONE ? LAST_TONE : tone + 2;
            default:
                return tone;
        }
    }

    private static long power(long base, int n) {
        long product = 1;
        for (int j = 0; j < n; j++) {
            product *= base;
        }
        return product;
    }

    /** How many of the 10 to the n cases have a post on just so many of the n days: which days these are does not matter. */
    private static long weight(int v, int n, int posts) {
        long ways = 1;
        for (int j = 1; j <= posts; j++) {
            ways = ways * (n - posts + j) / j;
        }
        return ways * power(10 - v, posts) * power(v, n - posts);
    }

    private static long ofLowestTerms(long over, long under, int what) {
        long divisor = commonDivisor(over, under);
        if (divisor <= 0) {
            return what == 0 ? over : under;
        }
        return what == 0 ? over / divisor : under / divisor;
    }

    private static long commonDivisor(long a, long b) {
        long greater = a;
        long lesser = b;
        for (int step = 0; step < 200 && lesser != 0; step++) {
            long rest = greater % lesser;
            greater = lesser;
            lesser = rest;
        }
        return greater;
    }

    private static int tablePlace(int tone, int d, int p) {
        return (tone * (LAST_SEEN_DAY + 1) + d) * MOST_PEOPLE + p;
    }

    /** Each tone's days are run once here, as ask() looks at them by day and by one. */
    private void fillMoodTable(int i, int left) {
        for (int v = 0; v <= LAST_TONE; v++) {
            if ((left >> v & 1) != 0) {
                trial.copyFrom(now);
                trial.toneOf[i] = v;
                for (int d = 0; d <= LAST_SEEN_DAY; d++) {
                    System.arraycopy(trial.moodOf, 0, moodTable, tablePlace(v, d, 0), MOST_PEOPLE);
                    trial.pass(1);
                }
            }
        }
    }

    private int mostOfOneMood(int left, int d, int p) {
        for (int m = 0; m <= LAST_MOOD; m++) {
            tally[m] = 0;
        }
        int most = 0;
        for (int v = 0; v <= LAST_TONE; v++) {
            if ((left >> v & 1) != 0) {
                int m = moodTable[tablePlace(v, d, p)];
                tally[m]++;
                most = Math.max(most, tally[m]);
            }
        }
        return most;
    }

    /** The first of those by which moods are most, if they are more than those that it starts above. */
    private static final class Choice {
        private int best = NONE;
        private int most;

        void startAbove(int moods) {
            best = NONE;
            most = moods;
        }

        void weigh(int which, int moods) {
            if (moods > most) {
                best = which;
                most = moods;
            }
        }

        int told(int what) {
            return best == NONE || what == 0 ? best : most;
        }
    }

    /** All that an image holds: people, letters, pace, day, what was seen. */
    private static final class Post {
        int people;
        final int[] kindOf = new int[MOST_PEOPLE];
        final int[] doorOf = new int[MOST_PEOPLE];
        final int[] moodOf = new int[MOST_PEOPLE];
        int letters;
        final int[] fromOf = new int[MOST_LETTERS];
        final int[] toOf = new int[MOST_LETTERS];
        final int[] aboutOf = new int[MOST_LETTERS];
        final int[] toneOf = new int[MOST_LETTERS];
        final int[] atOf = new int[MOST_LETTERS];
        final int[] legOf = new int[MOST_LETTERS];
        int doorsADay = FIRST_PACE;
        int today;
        int seen;
        final int[] seenDay = new int[MOST_SEEN];
        final int[] seenWho = new int[MOST_SEEN];
        final int[] seenMood = new int[MOST_SEEN];

        void clear() {
            people = 0;
            letters = 0;
            doorsADay = FIRST_PACE;
            today = 0;
            seen = 0;
        }

        void copyFrom(Post other) {
            people = other.people;
            System.arraycopy(other.kindOf, 0, kindOf, 0, MOST_PEOPLE);
            System.arraycopy(other.doorOf, 0, doorOf, 0, MOST_PEOPLE);
            System.arraycopy(other.moodOf, 0, moodOf, 0, MOST_PEOPLE);
            letters = other.letters;
            System.arraycopy(other.fromOf, 0, fromOf, 0, MOST_LETTERS);
            System.arraycopy(other.toOf, 0, toOf, 0, MOST_LETTERS);
            System.arraycopy(other.aboutOf, 0, aboutOf, 0, MOST_LETTERS);
            System.arraycopy(other.toneOf, 0, toneOf, 0, MOST_LETTERS);
            System.arraycopy(other.atOf, 0, atOf, 0, MOST_LETTERS);
            System.arraycopy(other.legOf, 0, legOf, 0, MOST_LETTERS);
            doorsADay = other.doorsADay;
            today = other.today;
            seen = other.seen;
            System.arraycopy(other.seenDay, 0, seenDay, 0, MOST_SEEN);
            System.arraycopy(other.seenWho, 0, seenWho, 0, MOST_SEEN);
            System.arraycopy(other.seenMood, 0, seenMood, 0, MOST_SEEN);
        }

        boolean hasOne(int p) {
            return p >= 0 && p < people;
        }

        boolean hasLetter(int i) {
            return i >= 0 && i < letters;
        }

        boolean onItsWay(int i) {
            return legOf[i] == TO_SUBJECT || legOf[i] == TO_READER;
        }

        int headsFor(int i) {
            return legOf[i] == TO_SUBJECT ? aboutOf[i] : toOf[i];
        }

        void addOne(int kind, int door, int mood) {
            if (people < MOST_PEOPLE) {
                kindOf[people] = kind;
                doorOf[people] = door;
                moodOf[people] = mood;
                people++;
            }
        }

        void addLetter(int from, int to, int about, int tone) {
            if (letters < MOST_LETTERS) {
                fromOf[letters] = from;
                toOf[letters] = to;
                aboutOf[letters] = about;
                letters++;
                writeAgain(letters - 1, tone);
            }
        }

        void writeAgain(int i, int tone) {
            toneOf[i] = tone;
            atOf[i] = doorOf[fromOf[i]];
            legOf[i] = TO_SUBJECT;
        }

        void addSeen(int d, int p, int mood) {
            if (seen < MOST_SEEN) {
                seenDay[seen] = d;
                seenWho[seen] = p;
                seenMood[seen] = mood;
                seen++;
            }
        }

        int moods() {
            return sumOfFirst(moodOf, people);
        }

        int lettersOfLeg(int leg) {
            int bits = 0;
            for (int i = 0; i < letters; i++) {
                if (legOf[i] == leg) {
                    bits |= 1 << i;
                }
            }
            return bits;
        }

        int lettersTowards(int p) {
            int bits = 0;
            for (int i = 0; i < letters; i++) {
                if (onItsWay(i) && headsFor(i) == p) {
                    bits |= 1 << i;
                }
            }
            return bits;
        }

        int howManyCame() {
            return Integer.bitCount(lettersOfLeg(CAME));
        }

        boolean anyOnItsWay() {
            for (int i = 0; i < letters; i++) {
                if (onItsWay(i)) {
                    return true;
                }
            }
            return false;
        }

        /** Days on which no letter is on its way change nothing, so only the date is told on. */
        void pass(int n) {
            for (int d = 0; d < n && anyOnItsWay(); d++) {
                passOne();
            }
            today += n;
        }

        int moodsBehind(int n) {
            pass(n);
            return moods();
        }

        int passAndCountIdle(int n) {
            int idle = 0;
            for (int d = 0; d < n; d++) {
                if (passOne() == 0) {
                    idle++;
                }
            }
            return idle;
        }

        /** Answers how many letters were read. */
        private int passOne() {
            int reads = 0;
            for (int i = 0; i < letters; i++) {
                if (onItsWay(i)) {
                    int goal = doorOf[headsFor(i)];
                    atOf[i] = nearer(atOf[i], goal);
                    if (atOf[i] == goal) {
                        bring(i);
                        reads++;
                    }
                }
            }
            return reads;
        }

        private int nearer(int at, int goal) {
            if (at < goal) {
                return Math.min(at + doorsADay, goal);
            }
            return Math.max(at - doorsADay, goal);
        }

        private void bring(int i) {
            int who = headsFor(i);
            int kind = kindOf[who];
            int feeling = felt(kind, toneOf[i]);
            if (legOf[i] == TO_READER) {
                cheer(who, feeling / 2);
                legOf[i] = CAME;
                return;
            }
            cheer(who, feeling);
            if (sendsOn(kind, toneOf[i])) {
                toneOf[i] = altered(kind, toneOf[i]);
                legOf[i] = TO_READER;
            } else {
                legOf[i] = KEPT;
            }
        }

        private void cheer(int who, int more) {
            int mood = moodOf[who] + more;
            moodOf[who] = mood < 0 ? 0 : mood > LAST_MOOD ? LAST_MOOD : mood;
        }

        /** Runs the days as it looks, so it is asked of a trial alone. */
        boolean goesAsSeen() {
            int last = lastSeenDay();
            for (int d = 0; d <= last; d++) {
                for (int s = 0; s < seen; s++) {
                    if (seenDay[s] == d && moodOf[seenWho[s]] != seenMood[s]) {
                        return false;
                    }
                }
                pass(1);
            }
            return true;
        }

        private int lastSeenDay() {
            int last = -1;
            for (int s = 0; s < seen; s++) {
                last = Math.max(last, seenDay[s]);
            }
            return last;
        }
    }

    /** The bytes that were fed, and how they are read as a text. */
    private static final class Tape {
        private static final int END = 0, NAME = 1, NUMBER = 2, SEMICOLON = 3;
        // Lines 0 to 3 are those of the kinds, by the kinds' own numbers.
        private static final int LETTER_LINE = 4, PACE_LINE = 5, NO_LINE = 6;

        final int[] bytes = new int[MOST_BYTES];
        int length;
        final Post told = new Post();
        int lines;
        int fault;
        int faultPlace;
        private int place;
        private int token;
        private int start;
        private int number;
        private boolean paceTold;
        private final int[] values = new int[4];

        void tellAll() {
            told.clear();
            lines = 0;
            fault = 0;
            faultPlace = 0;
            place = 0;
            paceTold = false;
            takeToken();
            for (int n = 0; n <= MOST_BYTES && fault == 0 && token != END; n++) {
                takeLine();
            }
            if (fault == 0) {
                placeLetters();
            }
        }

        private void fail(int which, int where) {
            fault = which;
            faultPlace = where;
        }

        private void takeLine() {
            int line = token == NAME ? lineOfName() : NO_LINE;
            checkLine(line);
            int wanted = line == LETTER_LINE ? 4 : line == PACE_LINE ? 1 : 2;
            for (int j = 0; j < wanted && fault == 0; j++) {
                takeNumber(line, j);
            }
            if (fault == 0) {
                takeToken();
            }
            if (fault == 0 && token != SEMICOLON) {
                fail(2, start);
            }
            if (fault == 0) {
                tell(line);
                takeToken();
            }
        }

        private void checkLine(int line) {
            if (line == NO_LINE) {
                fail(2, start);
            } else if (line == PACE_LINE && paceTold) {
                fail(4, start);
            } else if (line == LETTER_LINE && told.letters >= MOST_LETTERS) {
                fail(5, start);
            } else if (line < LETTER_LINE && told.people >= MOST_PEOPLE) {
                fail(5, start);
            }
        }

        private void takeNumber(int line, int j) {
            takeToken();
            if (fault != 0) {
                return;
            }
            if (token != NUMBER) {
                fail(2, start);
            } else if (!within(number, line == PACE_LINE ? 1 : 0, mostOf(line, j))) {
                fail(3, start);
            } else {
                values[j] = number;
            }
        }

        private static int mostOf(int line, int j) {
            if (line == PACE_LINE) {
                return LAST_PACE;
            }
            if (line == LETTER_LINE) {
                return j < 3 ? MOST_PEOPLE - 1 : LAST_TONE;
            }
            return j == 0 ? LAST_DOOR : LAST_MOOD;
        }

        private void tell(int line) {
            lines++;
            if (line == PACE_LINE) {
                told.doorsADay = values[0];
                paceTold = true;
            } else if (line == LETTER_LINE) {
                told.addLetter(values[0], values[1], values[2], values[3]);
            } else {
                told.addOne(line, values[0], values[1]);
            }
        }

        /** Letters may be told ahead of those whom they name, so both are looked at behind all. */
        private void placeLetters() {
            for (int i = 0; i < told.letters; i++) {
                if (!told.hasOne(told.fromOf[i]) || !told.hasOne(told.toOf[i]) || !told.hasOne(told.aboutOf[i])) {
                    fail(6, length);
                    return;
                }
                told.writeAgain(i, told.toneOf[i]);
            }
        }

        private void takeToken() {
            while (place < length && bytes[place] == ' ') {
                place++;
            }
            start = place;
            if (place >= length) {
                token = END;
            } else if (isAmong(place, 'a', 'z')) {
                token = NAME;
                skip('a', 'z');
            } else if (isAmong(place, '0', '9')) {
                token = NUMBER;
                skip('0', '9');
                takeFigures();
            } else if (bytes[place] == ';') {
                token = SEMICOLON;
                place++;
            } else {
                fail(1, start);
            }
        }

        private boolean isAmong(int where, char least, char most) {
            return within(bytes[where], least, most);
        }

        private void skip(char least, char most) {
            while (place < length && isAmong(place, least, most)) {
                place++;
            }
        }

        private void takeFigures() {
            if (place - start > 2) {
                fail(1, start);
                return;
            }
            number = 0;
            for (int j = start; j < place; j++) {
                number = 10 * number + bytes[j] - '0';
            }
        }

        private int lineOfName() {
            for (int line = 0; line < NO_LINE; line++) {
                if (nameIs(nameOf(line))) {
                    return line;
                }
            }
            return NO_LINE;
        }

        private static String nameOf(int line) {
            switch (line) {
                case PLAIN:
                    return "plain";
                case PROUD:
                    return "proud";
                case KIND:
                    return "kind";
                case SLY:
                    return "sly";
                case LETTER_LINE:
                    return "letter";
                default:
                    return "pace";
            }
        }

        private boolean nameIs(String name) {
            if (place - start != name.length()) {
                return false;
            }
            for (int j = 0; j < name.length(); j++) {
                if (bytes[start + j] != name.charAt(j)) {
                    return false;
                }
            }
            return true;
        }
    }

    /** A row of cells, or nothing; its faults are found ahead of the machine. */
    private static final class Sheet {
        private static final int NOTHING = -1;

        int size = NOTHING;
        final int[] cells = new int[MOST_CELLS];
        private int laneOfCells;

        boolean isNothing() {
            return size == NOTHING;
        }

        void renew(int lane, int n) {
            laneOfCells = lane;
            size = n;
            for (int j = 0; j < n; j++) {
                cells[j] = 0;
            }
        }

        void put(int i, int v) {
            cells[i] = laneOfCells == 0 ? (byte) v : laneOfCells == 1 ? (short) v : v;
        }

        /** Nothing may be taken as of any lane, as the machine casts null to all: it is found when a cell is read. */
        int faultOfLetter(int lane, int first) {
            if (!isNothing() && laneOfCells != lane) {
                return CAST_FAULT;
            }
            return faultOfCells(first, CELLS_A_LETTER);
        }

        int faultOfCells(int first, int n) {
            if (isNothing()) {
                return NULL_FAULT;
            }
            return first < 0 || first > size - n ? INDEX_FAULT : 0;
        }
    }
}
