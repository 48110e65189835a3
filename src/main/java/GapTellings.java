import java.util.Arrays;

/** What is told in the gaps of a film: placed by hand, in the plan of the most worth, and worthiest first. */
public final class GapTellings {
    public static final int BAD = -1, NO = -2, FULL = -3, NONE = -4, ZERO = 100000;

    private static final int MOST_TICKS = 100;
    private static final int MOST_SOUNDS = 12;
    private static final int MOST_PICTURES = 7;
    private static final int MOST_VERSIONS = 3;
    private static final int MOST_LETTERS = 200;
    private static final int MOST_NUMBERS = 9;
    private static final int MOST_SHIFT = 20;
    private static final int MOST_LENGTH = 30;
    private static final int MOST_WORTH = 99;
    private static final int MOST_RATE = 9;
    private static final int MOST_BREATH = 9;
    private static final int KINDS = 3;
    private static final int RATES = 4;
    private static final int EARLY = 0, LATE = 1, SONG = 2, NOISE = 3;
    private static final int SPEECH_MARK = 1, SONG_MARK = 2, NOISE_MARK = 4, TOLD_MARK = 8;
    private static final int NO_SOUND = -1;
    /** The letter of each kind of sound, at the kind's number. */
    private static final String SOUND_LETTERS = "sgn";
    private static final String FIRST_TEXT =
        "f60;s0,6;s14,20;g20,28;s33,40;n44,50;p8,4,4,6,9,3,5;p18,6,8,7,12,4,7;p30,9,5,8,20,5,12,2,6;p42,3,9,5,8;p55,9,2,4,6,2,3;c1,2;b1;";

    private final char[] text = new char[MOST_LETTERS];
    private int textLength;
    private final TextReader reader = new TextReader();
    /** What a text is tried on, so that a fault leaves the film as it was. */
    private final Film draft = new Film();
    private final Film film = new Film();
    private final Track track = new Track(film);
    private final Track supposed = new Track(film);
    private final Plan placed = new Plan(film);
    private final BestFinder bestFinder = new BestFinder(film);
    private final Plan bestPlan = new Plan(film);
    private int bestValue;
    private boolean bestKnown;
    private final GreedyFinder greedyFinder = new GreedyFinder(film, track);

    public GapTellings() {
        int length = Math.min(FIRST_TEXT.length(), MOST_LETTERS);
        for (int i = 0; i < length; i++) {
            text[i] = FIRST_TEXT.charAt(i);
        }
        textLength = length;
        layText();
        textLength = 0;
    }

    // ---- told

    public int write(int letter) {
        if (letter < 32 || letter > 126) {
            return BAD;
        }
        if (textLength >= MOST_LETTERS) {
            return FULL;
        }
        text[textLength] = (char) letter;
        textLength++;
        return textLength;
    }

    public int wipe() {
        int length = textLength;
        textLength = 0;
        return length;
    }

    public int fault() {
        return reader.read(text, textLength, draft);
    }

    public int lay() {
        if (textLength == 0 || reader.read(text, textLength, draft) != NONE) {
            return NO;
        }
        layText();
        return film.pictureCount;
    }

    public int rate(int what, int r) {
        if (what < 0 || what >= RATES || r < 0 || r > MOST_RATE) {
            return BAD;
        }
        int before = film.rates[what];
        if (before == r) {
            return NO;
        }
        film.rates[what] = r;
        filmChanged();
        return before;
    }

    public int breath(int b) {
        if (b < 0 || b > MOST_BREATH) {
            return BAD;
        }
        int before = film.breath;
        if (before == b) {
            return NO;
        }
        film.breath = b;
        placed.clear();
        filmChanged();
        return before;
    }

    public int sound(int kind, int from, int to) {
        if (kind < 0 || kind >= KINDS || from < 0 || to <= from || to > film.ticks) {
            return BAD;
        }
        if (film.soundCount >= MOST_SOUNDS) {
            return FULL;
        }
        film.addSound(kind, from, to);
        filmChanged();
        placed.dropFaulty(track);
        return film.soundCount;
    }

    public int hush(int s) {
        if (!hasSound(s)) {
            return BAD;
        }
        film.dropSound(s);
        filmChanged();
        return film.soundCount;
    }

    public int version(int p, int length, int worth) {
        if (!hasPicture(p) || length < 1 || length > MOST_LENGTH || worth < 1 || worth > MOST_WORTH) {
            return BAD;
        }
        Picture picture = film.pictures[p];
        if (picture.versionCount >= MOST_VERSIONS) {
            return FULL;
        }
        picture.addVersion(length, worth);
        filmChanged();
        return picture.versionCount;
    }

    // ---- by hand

    public int place(int p, int v, int t) {
        if (!hasVersion(p, v) || !hasTick(t)) {
            return BAD;
        }
        if (placed.whyNot(track, p, v, t) != 0) {
            return NO;
        }
        placed.put(p, v, t);
        return track.gainOf(p, v, t) + ZERO;
    }

    public int off(int p) {
        if (!hasPicture(p)) {
            return BAD;
        }
        if (!placed.has(p)) {
            return NO;
        }
        return placed.dropWithNeeders(p);
    }

    public int why(int p, int v, int t) {
        if (!hasVersion(p, v) || !hasTick(t)) {
            return BAD;
        }
        return placed.whyNot(track, p, v, t);
    }

    public int gain(int p, int v, int t) {
        if (!hasVersion(p, v) || !hasTick(t) || track.ownWhyNot(p, v, t) == 1) {
            return BAD;
        }
        return track.gainOf(p, v, t) + ZERO;
    }

    public int value() {
        return placed.valueOn(track) + ZERO;
    }

    public int adopt() {
        findBest();
        placed.copyFrom(bestPlan);
        return placed.size();
    }

    public int picture(int p, int what) {
        if (!hasPicture(p)) {
            return BAD;
        }
        Picture picture = film.pictures[p];
        switch (what) {
            case 0: return picture.tick;
            case 1: return picture.early;
            case 2: return picture.late;
            case 3: return picture.versionCount;
            case 4: return picture.needs;
            case 5: return placed.versions[p];
            case 6: return placed.starts[p];
            default: return BAD;
        }
    }

    public int told(int p, int v, int what) {
        if (!hasVersion(p, v)) {
            return BAD;
        }
        switch (what) {
            case 0: return film.pictures[p].lengths[v];
            case 1: return film.pictures[p].worths[v];
            case 2: return ticksOpenNow(p, v);
            case 3: return track.ticksOpen(p, v);
            case 4: return track.greatestGain(p, v);
            default: return BAD;
        }
    }

    // ---- the film

    public int tick(int t) {
        if (!hasTick(t)) {
            return BAD;
        }
        return track.marks[t] | (placed.tellsAt(t) ? TOLD_MARK : 0);
    }

    public int silence(int i, int what) {
        if (i < -1 || what < 0 || what > 2) {
            return BAD;
        }
        if (i == -1) {
            return track.silenceCount();
        }
        int first = track.silenceBegin(i);
        if (first == NONE) {
            return NONE;
        }
        int end = track.silenceEnd(first);
        if (what == 0) {
            return first;
        }
        return what == 1 ? end - first : placed.ticksTold(first, end);
    }

    // ---- plans

    public int best() {
        findBest();
        return bestValue;
    }

    public int bestOf(int p, int what) {
        if (!hasPicture(p) || what < 0 || what > 1) {
            return BAD;
        }
        findBest();
        return what == 0 ? bestPlan.versions[p] : bestPlan.starts[p];
    }

    public int bestBy(int set) {
        if (set < 0 || set > film.allPictures()) {
            return BAD;
        }
        return bestFinder.solve(track, film.breath, set);
    }

    public int bestIf(int s, int n) {
        if (!hasSound(s) || n < 0 || n > film.ends[s] - film.begins[s]) {
            return BAD;
        }
        supposed.listen(s, n);
        return bestFinder.solve(supposed, film.breath, film.allPictures());
    }

    public int bestBreath(int b) {
        if (b < 0 || b > MOST_BREATH) {
            return BAD;
        }
        return bestFinder.solve(track, b, film.allPictures());
    }

    public int greedy() {
        greedyFinder.fillPlan();
        return greedyFinder.plan.valueOn(track) + ZERO;
    }

    public int greedyOf(int p, int what) {
        if (!hasPicture(p) || what < 0 || what > 1) {
            return BAD;
        }
        greedyFinder.fillPlan();
        return what == 0 ? greedyFinder.plan.versions[p] : greedyFinder.plan.starts[p];
    }

    public int count(int what) {
        switch (what) {
            case 0: return film.ticks;
            case 1: return film.soundCount;
            case 2: return film.pictureCount;
            case 3: return placed.size();
            case 4: return film.breath;
            case 5: return textLength;
            case 6:
                findBest();
                return bestPlan.size();
            case 7: return track.speechBefore[film.ticks];
            case 8: return placed.ticksTold(0, film.ticks);
            case 9: return film.rates[EARLY];
            case 10: return film.rates[LATE];
            case 11: return film.rates[SONG];
            case 12: return film.rates[NOISE];
            default: return BAD;
        }
    }

    // ---- helpers

    private boolean hasPicture(int p) {
        return p >= 0 && p < film.pictureCount;
    }

    private boolean hasVersion(int p, int v) {
        return hasPicture(p) && v >= 0 && v < film.pictures[p].versionCount;
    }

    private boolean hasTick(int t) {
        return t >= 0 && t < film.ticks;
    }

    private boolean hasSound(int s) {
        return s >= 0 && s < film.soundCount;
    }

    private void layText() {
        reader.read(text, textLength, film);
        placed.clear();
        filmChanged();
    }

    private void filmChanged() {
        track.listen(NO_SOUND, 0);
        bestKnown = false;
        greedyFinder.known = false;
    }

    private void findBest() {
        if (bestKnown) {
            return;
        }
        bestValue = bestFinder.solve(track, film.breath, film.allPictures());
        bestFinder.trace(track, film.breath, bestPlan);
        bestKnown = true;
    }

    private int ticksOpenNow(int p, int v) {
        int open = 0;
        for (int t = 0; t < film.ticks; t++) {
            if (placed.whyNot(track, p, v, t) == 0) {
                open++;
            }
        }
        return open;
    }

    /** A picture that is to be told, in one of its versions. */
    private static final class Picture {
        private int tick;
        private int early;
        private int late;
        private int needs;
        private int versionCount;
        private final int[] lengths = new int[MOST_VERSIONS];
        private final int[] worths = new int[MOST_VERSIONS];

        void start(int ownTick, int mostEarly, int mostLate) {
            tick = ownTick;
            early = mostEarly;
            late = mostLate;
            needs = NONE;
            versionCount = 0;
        }

        boolean isNear(int t) {
            return t >= tick - early && t <= tick + late;
        }

        void addVersion(int length, int worth) {
            if (versionCount < MOST_VERSIONS) {
                lengths[versionCount] = length;
                worths[versionCount] = worth;
                versionCount++;
            }
        }
    }

    /** All that a text tells, and the rates. */
    private static final class Film {
        private int ticks;
        private int breath;
        private final int[] rates = new int[RATES];
        private int soundCount;
        private final int[] kinds = new int[MOST_SOUNDS];
        private final int[] begins = new int[MOST_SOUNDS];
        private final int[] ends = new int[MOST_SOUNDS];
        private int pictureCount;
        private final Picture[] pictures = new Picture[MOST_PICTURES];

        Film() {
            for (int p = 0; p < MOST_PICTURES; p++) {
                pictures[p] = new Picture();
            }
        }

        void startAnew() {
            ticks = 0;
            breath = 1;
            soundCount = 0;
            pictureCount = 0;
            rates[EARLY] = 2;
            rates[LATE] = 1;
            rates[SONG] = 3;
            rates[NOISE] = 1;
        }

        void addSound(int kind, int from, int to) {
            if (soundCount < MOST_SOUNDS) {
                kinds[soundCount] = kind;
                begins[soundCount] = from;
                ends[soundCount] = to;
                soundCount++;
            }
        }

        void dropSound(int s) {
            soundCount--;
            for (int i = s; i < soundCount; i++) {
                kinds[i] = kinds[i + 1];
                begins[i] = begins[i + 1];
                ends[i] = ends[i + 1];
            }
        }

        /** The set of all pictures, as bits. */
        int allPictures() {
            return (1 << pictureCount) - 1;
        }
    }

    /** What sounds at each tick of a film, and what that alone means for a version told at a tick. */
    private static final class Track {
        private final Film film;
        private final int[] marks = new int[MOST_TICKS];
        /** Sums over the ticks ahead of each one, so that a stretch is looked up and not walked. */
        private final int[] speechBefore = new int[MOST_TICKS + 1];
        private final int[] costBefore = new int[MOST_TICKS + 1];

        Track(Film film) {
            this.film = film;
        }

        /** Takes in the film's sounds, one of them ended earlier (NO_SOUND: none). */
        void listen(int shorterSound, int byTicks) {
            Arrays.fill(marks, 0);
            for (int s = 0; s < film.soundCount; s++) {
                int end = film.ends[s] - (s == shorterSound ? byTicks : 0);
                int mark = 1 << film.kinds[s];
                for (int t = film.begins[s]; t < end; t++) {
                    marks[t] |= mark;
                }
            }
            for (int t = 0; t < film.ticks; t++) {
                speechBefore[t + 1] = speechBefore[t] + (hasSpeech(t) ? 1 : 0);
                costBefore[t + 1] = costBefore[t] + soundCost(marks[t]);
            }
        }

        boolean hasSpeech(int t) {
            return (marks[t] & SPEECH_MARK) != 0;
        }

        int soundCost(int mark) {
            if ((mark & SONG_MARK) != 0) {
                return film.rates[SONG];
            }
            return (mark & NOISE_MARK) != 0 ? film.rates[NOISE] : 0;
        }

        /** WHY NOT 1 to 3: those that no other picture has a part in. */
        int ownWhyNot(int p, int v, int t) {
            Picture picture = film.pictures[p];
            int end = t + picture.lengths[v];
            if (end > film.ticks) {
                return 1;
            }
            if (!picture.isNear(t)) {
                return 2;
            }
            return speechBefore[end] > speechBefore[t] ? 3 : 0;
        }

        /** GAIN of a version that ends by the film's end. */
        int gainOf(int p, int v, int t) {
            Picture picture = film.pictures[p];
            int end = Math.min(t + picture.lengths[v], film.ticks);
            int away = t - picture.tick;
            int shiftCost = away < 0 ? -away * film.rates[EARLY] : away * film.rates[LATE];
            return picture.worths[v] - shiftCost - (costBefore[end] - costBefore[t]);
        }

        int ticksOpen(int p, int v) {
            int open = 0;
            for (int t = 0; t < film.ticks; t++) {
                if (ownWhyNot(p, v, t) == 0) {
                    open++;
                }
            }
            return open;
        }

        int greatestGain(int p, int v) {
            int greatest = NONE;
            for (int t = 0; t < film.ticks; t++) {
                if (ownWhyNot(p, v, t) == 0) {
                    greatest = Math.max(greatest, gainOf(p, v, t) + ZERO);
                }
            }
            return greatest;
        }

        boolean silenceBeginsAt(int t) {
            return !hasSpeech(t) && (t == 0 || hasSpeech(t - 1));
        }

        int silenceCount() {
            int silences = 0;
            for (int t = 0; t < film.ticks; t++) {
                if (silenceBeginsAt(t)) {
                    silences++;
                }
            }
            return silences;
        }

        int silenceBegin(int i) {
            int ahead = 0;
            for (int t = 0; t < film.ticks; t++) {
                if (silenceBeginsAt(t)) {
                    if (ahead == i) {
                        return t;
                    }
                    ahead++;
                }
            }
            return NONE;
        }

        int silenceEnd(int first) {
            for (int t = first; t < film.ticks; t++) {
                if (hasSpeech(t)) {
                    return t;
                }
            }
            return film.ticks;
        }
    }

    /** Which pictures are placed, each in a version at a tick (NONE: it is not). */
    private static final class Plan {
        private final Film film;
        private final int[] versions = new int[MOST_PICTURES];
        private final int[] starts = new int[MOST_PICTURES];

        Plan(Film film) {
            this.film = film;
            Arrays.fill(versions, NONE);
            Arrays.fill(starts, NONE);
        }

        void clear() {
            Arrays.fill(versions, NONE);
            Arrays.fill(starts, NONE);
        }

        void copyFrom(Plan other) {
            System.arraycopy(other.versions, 0, versions, 0, MOST_PICTURES);
            System.arraycopy(other.starts, 0, starts, 0, MOST_PICTURES);
        }

        boolean has(int p) {
            return versions[p] != NONE;
        }

        void put(int p, int v, int t) {
            versions[p] = v;
            starts[p] = t;
        }

        void drop(int p) {
            versions[p] = NONE;
            starts[p] = NONE;
        }

        int size() {
            int size = 0;
            for (int p = 0; p < film.pictureCount; p++) {
                if (has(p)) {
                    size++;
                }
            }
            return size;
        }

        /** Where a picture of this plan ends. */
        int endOf(int p) {
            return starts[p] + film.pictures[p].lengths[versions[p]];
        }

        int whyNot(Track track, int p, int v, int t) {
            int own = track.ownWhyNot(p, v, t);
            return own != 0 ? own : whyNotBesideOthers(p, v, t);
        }

        /** WHY NOT 4 to 6: those that come from the other pictures of the plan. */
        int whyNotBesideOthers(int p, int v, int t) {
            int end = t + film.pictures[p].lengths[v];
            for (int q = 0; q < film.pictureCount; q++) {
                if (q != p && has(q) && starts[q] - end < film.breath && t - endOf(q) < film.breath) {
                    return 4;
                }
            }
            int needed = film.pictures[p].needs;
            if (needed != NONE && (!has(needed) || endOf(needed) > t)) {
                return 5;
            }
            for (int q = 0; q < film.pictureCount; q++) {
                if (film.pictures[q].needs == p && has(q) && starts[q] < end) {
                    return 6;
                }
            }
            return 0;
        }

        /** A picture that goes can give another one a WHY NOT, so each time it is looked from the lowest on. */
        void dropFaulty(Track track) {
            for (int round = 0; round < MOST_PICTURES; round++) {
                int p = lowestFaulty(track);
                if (p == NONE) {
                    return;
                }
                drop(p);
            }
        }

        int lowestFaulty(Track track) {
            for (int p = 0; p < film.pictureCount; p++) {
                if (has(p) && whyNot(track, p, versions[p], starts[p]) != 0) {
                    return p;
                }
            }
            return NONE;
        }

        /** What a picture needs has a lower number, so one way up finds all that need it, and those that need these. */
        int dropWithNeeders(int p) {
            int gone = 1 << p;
            int dropped = 1;
            drop(p);
            for (int q = p + 1; q < film.pictureCount; q++) {
                int needed = film.pictures[q].needs;
                if (needed != NONE && has(q) && (gone & (1 << needed)) != 0) {
                    gone |= 1 << q;
                    dropped++;
                    drop(q);
                }
            }
            return dropped;
        }

        int valueOn(Track track) {
            int sum = 0;
            for (int p = 0; p < film.pictureCount; p++) {
                if (has(p)) {
                    sum += track.gainOf(p, versions[p], starts[p]);
                }
            }
            return sum;
        }

        boolean tellsAt(int t) {
            return ticksTold(t, t + 1) > 0;
        }

        /** How many ticks from one to ahead of another have something told; no two pictures share a tick. */
        int ticksTold(int from, int to) {
            int sum = 0;
            for (int p = 0; p < film.pictureCount; p++) {
                if (has(p)) {
                    sum += Math.max(0, Math.min(endOf(p), to) - Math.max(starts[p], from));
                }
            }
            return sum;
        }
    }

    /**
     * The plan of the greatest value. For each tick and each set of pictures that are told ahead of it, the table
     * has the most that the ticks from there on can bring. As whatever is told ahead has ended, NEEDS is a question
     * of the set alone.
     */
    private static final class BestFinder {
        private final Film film;
        private final int[] table = new int[(MOST_TICKS + 1) << MOST_PICTURES];

        BestFinder(Film film) {
            this.film = film;
        }

        int solve(Track track, int breath, int set) {
            int width = 1 << film.pictureCount;
            for (int told = 0; told < width; told++) {
                table[film.ticks * width + told] = 0;
            }
            for (int t = film.ticks - 1; t >= 0; t--) {
                System.arraycopy(table, (t + 1) * width, table, t * width, width);
                int ahead = openAhead(set, t);
                for (int p = 0; p < film.pictureCount; p++) {
                    if ((set & (1 << p)) != 0 && film.pictures[p].isNear(t) && (neededSet(p) & ~ahead) == 0) {
                        tryPicture(track, breath, p, t, ahead);
                    }
                }
            }
            return table[0];
        }

        /** Of a set, the pictures that can begin ahead of a tick: no others can be told by then. */
        int openAhead(int set, int t) {
            int ahead = 0;
            for (int p = 0; p < film.pictureCount; p++) {
                if (film.pictures[p].tick - film.pictures[p].early < t) {
                    ahead |= 1 << p;
                }
            }
            return ahead & set;
        }

        void tryPicture(Track track, int breath, int p, int t, int ahead) {
            int rest = ahead & ~((1 << p) | neededSet(p));
            for (int v = 0; v < film.pictures[p].versionCount; v++) {
                if (track.ownWhyNot(p, v, t) == 0) {
                    raiseRow(p, t, nextFree(p, v, t, breath), track.gainOf(p, v, t), rest);
                }
            }
        }

        /** Goes through what is needed with each part of the rest: all sets that can be told ahead. */
        void raiseRow(int p, int t, int next, int gained, int rest) {
            int width = 1 << film.pictureCount;
            int needed = neededSet(p);
            int row = t * width + needed;
            int nextRow = next * width + needed + (1 << p);
            int part = 0;
            for (int left = 1 << Integer.bitCount(rest); left > 0; left--) {
                int sum = gained + table[nextRow + part];
                if (sum > table[row + part]) {
                    table[row + part] = sum;
                }
                part = (part - rest) & rest;
            }
        }

        /** The first tick at which another one could begin; behind the film all are as its end. */
        int nextFree(int p, int v, int t, int breath) {
            return Math.min(t + film.pictures[p].lengths[v] + breath, film.ticks);
        }

        int neededSet(int p) {
            int needs = film.pictures[p].needs;
            return needs == NONE ? 0 : 1 << needs;
        }

        /** Reads the plan out of what solve left for all pictures. */
        void trace(Track track, int breath, Plan plan) {
            plan.clear();
            int told = 0;
            int free = 0;
            for (int t = 0; t < film.ticks; t++) {
                int p = t < free ? NONE : putFirst(track, breath, plan, told, t);
                if (p != NONE) {
                    told |= 1 << p;
                    free = nextFree(p, plan.versions[p], t, breath);
                }
            }
        }

        /** Of plans of the same value the one counts that begins the lowest picture and version at the earliest tick. */
        int putFirst(Track track, int breath, Plan plan, int told, int t) {
            int width = 1 << film.pictureCount;
            int due = table[t * width + told];
            for (int p = 0; p < film.pictureCount; p++) {
                int own = 1 << p;
                int needed = neededSet(p);
                if ((told & (own | needed)) != needed) {
                    continue;
                }
                for (int v = 0; v < film.pictures[p].versionCount; v++) {
                    if (track.ownWhyNot(p, v, t) == 0
                            && track.gainOf(p, v, t) + table[nextFree(p, v, t, breath) * width + told + own] == due) {
                        plan.put(p, v, t);
                        return p;
                    }
                }
            }
            return NONE;
        }
    }

    /** The plan that takes the worthiest first. */
    private static final class GreedyFinder {
        private final Film film;
        private final Track track;
        private final Plan plan;
        /** Whether the plan is that of the film as it is now. */
        private boolean known;
        /** Versions that are passed over, a bit each. */
        private int passed;
        private int foundPicture;
        private int foundVersion;
        private int foundTick;
        private int foundWorth;
        private int foundGain;

        GreedyFinder(Film film, Track track) {
            this.film = film;
            this.track = track;
            this.plan = new Plan(film);
        }

        void fillPlan() {
            if (known) {
                return;
            }
            known = true;
            plan.clear();
            passed = 0;
            // Each round takes one version out of those that are looked at.
            for (int round = 0; round <= MOST_PICTURES * MOST_VERSIONS; round++) {
                findWorthiest();
                if (foundWorth == 0) {
                    return;
                }
                if (foundGain > 0) {
                    plan.put(foundPicture, foundVersion, foundTick);
                } else {
                    passed |= versionBit(foundPicture, foundVersion);
                }
            }
        }

        int versionBit(int p, int v) {
            return 1 << (p * MOST_VERSIONS + v);
        }

        void findWorthiest() {
            foundWorth = 0;
            foundGain = 0;
            for (int p = 0; p < film.pictureCount; p++) {
                if (plan.has(p)) {
                    continue;
                }
                for (int v = 0; v < film.pictures[p].versionCount; v++) {
                    if ((passed & versionBit(p, v)) == 0 && film.pictures[p].worths[v] >= foundWorth) {
                        lookAtTicks(p, v);
                    }
                }
            }
        }

        void lookAtTicks(int p, int v) {
            Picture picture = film.pictures[p];
            int first = Math.max(0, picture.tick - picture.early);
            int last = Math.min(film.ticks - 1, picture.tick + picture.late);
            for (int t = first; t <= last; t++) {
                if (plan.whyNot(track, p, v, t) == 0) {
                    offer(p, v, t);
                }
            }
        }

        /** Offers come lowest first, so of equal ones the first one stays. */
        void offer(int p, int v, int t) {
            int worth = film.pictures[p].worths[v];
            int gained = track.gainOf(p, v, t);
            if (worth > foundWorth || worth == foundWorth && gained > foundGain) {
                foundPicture = p;
                foundVersion = v;
                foundTick = t;
                foundWorth = worth;
                foundGain = gained;
            }
        }
    }

    /** Reads a text item by item into a film. */
    private static final class TextReader {
        private final int[] numbers = new int[MOST_NUMBERS];
        private final int[] figures = new int[MOST_NUMBERS];
        private int found;
        private int at;

        /** The place of the first item that is not so; NONE. */
        int read(char[] text, int length, Film film) {
            film.startAnew();
            at = 0;
            for (int item = 0; item < length && at < length; item++) {
                int begin = at;
                if (!readNumbers(text, length) || !tellItem(text[begin], film)) {
                    return begin;
                }
            }
            return NONE;
        }

        /** Reads what is behind an item's letter, to behind its ; */
        boolean readNumbers(char[] text, int length) {
            at++;
            for (int i = 0; i < MOST_NUMBERS; i++) {
                readNumber(text, length, i);
                if (figures[i] == 0 || at >= length) {
                    return false;
                }
                found = i + 1;
                char behind = text[at];
                at++;
                if (behind == ';') {
                    return true;
                }
                if (behind != ',') {
                    return false;
                }
            }
            return false;
        }

        /** Three figures are the most that any number has; a fourth one is then no sign that may stand there. */
        void readNumber(char[] text, int length, int i) {
            int number = 0;
            int read = 0;
            while (read < 3 && at < length && text[at] >= '0' && text[at] <= '9') {
                number = number * 10 + (text[at] - '0');
                read++;
                at++;
            }
            numbers[i] = number;
            figures[i] = read;
        }

        boolean tellItem(char letter, Film film) {
            if (letter == 'f') {
                return tellFilm(film);
            }
            if (film.ticks == 0) {
                return false;
            }
            int kind = SOUND_LETTERS.indexOf(letter);
            if (kind >= 0) {
                return tellSound(film, kind);
            }
            if (letter == 'p') {
                return tellPicture(film);
            }
            if (letter == 'c') {
                return tellNeed(film);
            }
            return letter == 'b' && tellBreath(film);
        }

        boolean tellFilm(Film film) {
            if (film.ticks != 0 || found != 1 || numbers[0] < 1 || numbers[0] > MOST_TICKS) {
                return false;
            }
            film.ticks = numbers[0];
            return true;
        }

        boolean tellSound(Film film, int kind) {
            if (found != 2 || figures[0] > 2 || numbers[0] >= numbers[1] || numbers[1] > film.ticks
                    || film.soundCount >= MOST_SOUNDS) {
                return false;
            }
            film.addSound(kind, numbers[0], numbers[1]);
            return true;
        }

        boolean tellPicture(Film film) {
            if (film.pictureCount >= MOST_PICTURES || !isPicture(film)) {
                return false;
            }
            Picture picture = film.pictures[film.pictureCount];
            picture.start(numbers[0], numbers[1], numbers[2]);
            for (int i = 3; i + 1 < found; i += 2) {
                picture.addVersion(numbers[i], numbers[i + 1]);
            }
            film.pictureCount++;
            return true;
        }

        boolean isPicture(Film film) {
            if (found < 5 || found % 2 == 0 || !allShort() || numbers[0] >= film.ticks
                    || numbers[1] > MOST_SHIFT || numbers[2] > MOST_SHIFT) {
                return false;
            }
            for (int i = 3; i + 1 < found; i += 2) {
                if (numbers[i] < 1 || numbers[i] > MOST_LENGTH || numbers[i + 1] < 1 || numbers[i + 1] > MOST_WORTH) {
                    return false;
                }
            }
            return true;
        }

        boolean allShort() {
            for (int i = 0; i < found; i++) {
                if (figures[i] > 2) {
                    return false;
                }
            }
            return true;
        }

        boolean tellNeed(Film film) {
            if (found != 2 || !allShort() || numbers[1] >= film.pictureCount || numbers[0] >= numbers[1]
                    || film.pictures[numbers[1]].needs != NONE) {
                return false;
            }
            film.pictures[numbers[1]].needs = numbers[0];
            return true;
        }

        boolean tellBreath(Film film) {
            if (found != 1 || !allShort() || numbers[0] > MOST_BREATH) {
                return false;
            }
            film.breath = numbers[0];
            return true;
        }
    }
}
