/** The well that gives what was not asked: see DOC.md for each promise. */
public final class WellGivesOther {
    public static final int NONE = -1, BAD = -2, STATE = -3, FULL = -4;
    public static final long NO = -4611686018427387904L;

    private static final int MISSING = -11, OUTSIDE = -12, UNLIKE = -13, BELOW_ZERO = -14;
    private static final int BAD_ROW = -1000, MISSING_ROW = -1011, NO_SUCH_SET = -1002;
    private static final int NOT_GLAD = -1000, NO_GLADDEST = -2000, FAULTY = -100;

    private static final int THINGS = 12, ALL = 4095, FEW_SETS = 298, MOST_OF_FEW = 3;
    private static final int MOST_ASKERS = 5, MOST_TEXTS = 6, MOST_TAPE = 160, MOST_OPEN = 5;
    private static final int MOST_SHEETS = 4, MOST_CELLS = 40;
    private static final int LAST_DAY = 999, MOST_SPENT = 9999, LAST_NUMBER = 9, TOLD_DAYS = 100;
    private static final int DRAWN_AT_MOST = 40, SEEDS_AT_MOST = 20, ASKINGS_OF_A_SEED = 6;

    private static final int ASKER = 0, CLERK = 1, TWIN = 2, BISHOP = 3, GREEDY = 4, OLD = 5;
    private static final int KINDS = 6;
    private static final int[] KIND_ABOVE = {-1, ASKER, ASKER, CLERK, TWIN, ASKER};

    private static final int GIVES = 0, GLADS = 1, COSTS = 2, PARTS = 3;
    private static final int BYTES = 0, SHORTS = 1, INTS = 2;

    private final int[] likes = new int[THINGS];
    private final int[] fewSets = new int[FEW_SETS];
    private final int[] tape = new int[MOST_TAPE];
    private final Asker[] seats = new Asker[MOST_ASKERS];
    private final Text[] texts = new Text[MOST_TEXTS];
    private final Sheet[] sheets = new Sheet[MOST_SHEETS];
    private final Visit thought = new Visit(likes);
    private final Reader reader = new Reader(tape);
    private final Picture picture = new Picture();
    private int today;
    private int askerCount;
    private int textCount = 1;
    private int rule;
    private int tapeSize;

    public WellGivesOther() {
        for (int i = 0; i < seats.length; i++) seats[i] = new Asker();
        for (int i = 0; i < texts.length; i++) texts[i] = new Text();
        for (int i = 0; i < sheets.length; i++) sheets[i] = new Sheet();
        Text first = textAt(0);
        if (first != null) first.becomeFirst();
        fillFewSets();
    }

    // ---- things, askers

    public int like(int one, int other, int on) {
        if (!isThing(one) || !isThing(other) || one == other || on < 0 || on > 1) return BAD;
        int was = likes[one] >> other & 1;
        likes[one] = likes[one] & ~(1 << other) | on << other;
        likes[other] = likes[other] & ~(1 << one) | on << one;
        return was;
    }

    public int set(int what, int of, int v) {
        if (what < 0 || what > 4 || v < 0 || v > mostOf(what)) return BAD;
        if (what == 0) {
            int was = today;
            today = v;
            return was;
        }
        Asker asker = seat(of);
        if (asker == null) return BAD;
        int was = asker.tell(what);
        asker.change(what, v);
        return was;
    }

    public int asker(int kind, int number) {
        if (kind < 0 || kind >= KINDS || number < 0 || number > LAST_NUMBER) return BAD;
        if (askerCount < 0 || askerCount >= seats.length) return FULL;
        Asker asker = seats[askerCount];
        if (asker == null) return FULL;
        asker.come(kind, number);
        askerCount++;
        return askerCount - 1;
    }

    public int told(int of, int what) {
        if (what == 0) return today;
        if (what == 7) return isThing(of) ? likes[of] : BAD;
        Asker asker = seat(of);
        if (asker == null || what < 0 || what > 7) return BAD;
        return what == 6 ? neverGiven(of) : asker.tell(what);
    }

    public int asks(int one, int set, int what) {
        Visit visit = visitOf(one);
        if (visit == null || !isAsked(set)) return BAD;
        switch (what) {
            case 0: return visit.openBy(set);
            case 1: return visit.givenBy(set);
            case 2: return visit.shutBy(set);
            case 3: return visit.costOf(set);
            default: return BAD;
        }
    }

    public int glad(int one, int thing) {
        Visit visit = visitOf(one);
        return visit == null || !isThing(thing) ? NOT_GLAD : visit.gladOf(thing);
    }

    // ---- texts

    public int feed(int letter) {
        if (letter < 0 || letter > 255) return BAD;
        if (tapeSize < 0 || tapeSize >= tape.length) return FULL;
        tape[tapeSize] = letter;
        tapeSize++;
        return tapeSize;
    }

    public int text() {
        Text text = textCount < MOST_TEXTS ? textAt(textCount) : null;
        if (text == null) return FULL;
        int fault = reader.read(tapeSize, text);
        tapeSize = 0;
        if (fault != NONE) return FAULTY - fault;
        textCount++;
        return textCount - 1;
    }

    public int force(int text) {
        if (text < 0 || text >= textCount) return BAD;
        int was = rule;
        rule = text;
        return was;
    }

    // ---- askings

    public int ask(int one, int set) {
        Visit visit = visitOf(one);
        Asker asker = seat(one);
        if (visit == null || asker == null || !isAsked(set)) return BAD;
        int given = visit.askFor(set);
        visit.leaveTo(asker);
        return given;
    }

    public int day() {
        if (today >= LAST_DAY) return STATE;
        today++;
        return today;
    }

    public int row(int sheet, int one, int what) {
        Visit visit = visitOf(one);
        Sheet sets = sheetAt(sheet);
        if (sets == null || visit == null || what < 0 || what > 5) return BAD_ROW;
        int refusal = rowRefusal(sets);
        if (refusal != 0) return refusal;
        askInRow(visit, sets);
        switch (what) {
            case 0: return visit.last;
            case 1: return visit.misses;
            case 2: return visit.joy;
            case 3: return visit.paid;
            case 4: return visit.shut;
            default: return visit.had;
        }
    }

    public int rows(int sheet, int one) {
        Visit visit = visitOf(one);
        Asker asker = seat(one);
        Sheet sets = sheetAt(sheet);
        if (sets == null || visit == null || asker == null) return BAD_ROW;
        int refusal = rowRefusal(sets);
        if (refusal != 0) return refusal;
        askInRow(visit, sets);
        visit.leaveTo(asker);
        return visit.gifts;
    }

    // ---- what would be best

    public int leave(int one, int thing, int what) {
        Visit visit = visitOf(one);
        if (visit == null || !isThing(thing) || what < 0 || what > 1) return BAD;
        int best = fewestLeaving(visit, thing);
        return what == 0 || best == NONE ? best : Integer.bitCount(best);
    }

    public int gladdest(int one, int what) {
        Visit visit = visitOf(one);
        if (visit == null || what < 0 || what > 1) return NO_GLADDEST;
        int best = gladdestSet(visit);
        if (what == 0) return best;
        return best == NONE ? NOT_GLAD : visit.gladOf(visit.givenBy(best));
    }

    public int get(int one, int thing, int what) {
        Visit visit = visitOf(one);
        if (visit == null || !isThing(thing) || what < 0 || what > 1) return BAD;
        int best = cheapestSet(visit, thing);
        return what == 0 || best == NONE ? best : visit.costOf(best);
    }

    public int map(int sheet) {
        Sheet told = sheetAt(sheet);
        if (told == null) return BAD;
        if (told.isMissing()) return MISSING;
        if (!tellsSetsAndThings(told)) return BAD;
        int twos = 0;
        for (int one = 0; one < THINGS; one++) {
            for (int other = 0; other < one; other++) {
                if (isRuledOut(told, one, other)) twos++;
            }
        }
        return twos;
    }

    public int net(int what) {
        switch (what) {
            case 0: return cliques();
            case 1: return nearest();
            case 2: return Integer.bitCount(likesOf(nearest()));
            case 3: return likeTwos();
            default: return BAD;
        }
    }

    public long share(int one, int part) {
        Asker asker = seat(one);
        if (asker == null || part < 0 || part > 1) return NO;
        return lowest(Integer.bitCount(asker.had), THINGS, part);
    }

    // ---- askings that were told

    public int tells(int sheet, int one, int what) {
        Sheet told = sheetAt(sheet);
        Visit visit = visitOf(one);
        if (told == null || visit == null || what < 0 || what > 7) return BAD;
        if (told.isMissing()) return MISSING;
        if (told.size > THINGS) return BAD;
        switch (what) {
            case 0: return firstOther(told, visit);
            case 1: return fittingKinds(told, visit);
            case 2: return fittingNumbers(told, visit);
            case 3: return fittingDays(told, visit);
            case 4: return firstFittingDay(told, visit);
            case 5: return fittingThings(told, visit);
            case 6: return fittingTexts(told, visit);
            default: return fittingAskers(told);
        }
    }

    public int film(int sheet, int one) {
        Sheet film = sheetAt(sheet);
        Visit visit = visitOf(one);
        if (film == null || visit == null) return BAD;
        film.become(BYTES, THINGS);
        int times = 0;
        for (int thing = 0; thing < THINGS; thing++) {
            int given = visit.givenBy(1 << thing);
            film.put(thing, given);
            if (given != NONE) times++;
        }
        return times;
    }

    public int drawn(int seed, int one, int n) {
        Visit visit = visitOf(one);
        if (visit == null || n < 0 || n > DRAWN_AT_MOST) return BAD;
        return hadByDrawing(visit, seed, n);
    }

    public long chance(int seed, int m, int one, int k, int part) {
        if (m < 1 || m > SEEDS_AT_MOST || seat(one) == null) return NO;
        if (k < 0 || k > THINGS || part < 0 || part > 1) return NO;
        int enough = 0;
        for (int i = 0; i < m; i++) {
            Visit visit = visitOf(one);
            if (visit != null && hadByDrawing(visit, seed + i, ASKINGS_OF_A_SEED) >= k) enough++;
        }
        return lowest(enough, m, part);
    }

    public int image() {
        picture.keep(likes, seats, askerCount);
        picture.today = today;
        picture.rule = rule;
        return askerCount;
    }

    public int back() {
        if (picture.askerCount == NONE) return STATE;
        picture.layBack(likes, seats);
        today = picture.today;
        rule = picture.rule;
        askerCount = picture.askerCount;
        return askerCount;
    }

    public int count(int what) {
        switch (what) {
            case 0: return askerCount;
            case 1: return likeTwos();
            case 2: return today;
            case 3: return textCount;
            case 4: return tapeSize;
            case 5: return rule;
            default: return BAD;
        }
    }

    // ---- the host

    public int sheet(int sheet, int sort, int n) {
        Sheet row = sheetAt(sheet);
        if (row == null || sort < NONE || sort > INTS) return BAD;
        if (sort == NONE) {
            row.become(NONE, 0);
            return 1;
        }
        if (n > MOST_CELLS) return BAD;
        if (n < 0) return BELOW_ZERO;
        row.become(sort, n);
        return 1;
    }

    public int cell(int sheet, int i, int v) {
        Sheet row = sheetAt(sheet);
        if (row == null) return BAD;
        if (row.isMissing()) return MISSING;
        if (i < 0 || i >= row.size) return OUTSIDE;
        row.put(i, v);
        return 1;
    }

    public int copy(int sheet, int i, int other, int j, int n) {
        Sheet from = sheetAt(sheet);
        Sheet to = sheetAt(other);
        if (from == null || to == null) return BAD;
        if (from.isMissing() || to.isMissing()) return MISSING;
        if (from.sort != to.sort) return UNLIKE;
        if (!from.holds(i, n) || !to.holds(j, n)) return OUTSIDE;
        System.arraycopy(from.cells, i, to.cells, j, n);
        return n;
    }

    public int askers(int sheet, int sort, int from, int n) {
        Sheet row = sheetAt(sheet);
        if (row == null || sort < BYTES || sort > INTS || n < 0 || n > MOST_ASKERS) return BAD;
        if (!row.isMissing() && row.sort != sort) return UNLIKE;
        if (row.isMissing()) return MISSING;
        int came = 0;
        int at = from;
        for (int k = 0; k < n; k++) {
            if (!row.holds(at, 2)) return OUTSIDE;
            if (asker(row.at(at), row.at(at + 1)) >= 0) came++;
            at += 2;
        }
        return came;
    }

    public int taken(int one, int k) {
        if (k < 0 || k >= KINDS) return BAD;
        Asker asker = seat(one);
        if (asker == null) return MISSING;
        int kind = asker.kind;
        for (int step = 0; step < KINDS && kind >= 0 && kind < KIND_ABOVE.length; step++) {
            if (kind == k) return asker.number;
            kind = KIND_ABOVE[kind];
        }
        return UNLIKE;
    }

    // ---- what the calls share

    private static boolean isThing(int thing) {
        return thing >= 0 && thing < THINGS;
    }

    private static boolean isAsked(int set) {
        return set >= 1 && set <= ALL;
    }

    private static int mostOf(int what) {
        switch (what) {
            case 0: return LAST_DAY;
            case 1: return LAST_NUMBER;
            case 4: return MOST_SPENT;
            default: return ALL;
        }
    }

    private int likesOf(int thing) {
        return thing >= 0 && thing < likes.length ? likes[thing] : 0;
    }

    /** The one of ASKERS that bears this number, or null. */
    private Asker seat(int one) {
        return one >= 0 && one < askerCount && one < seats.length ? seats[one] : null;
    }

    private Sheet sheetAt(int sheet) {
        return sheet >= 0 && sheet < sheets.length ? sheets[sheet] : null;
    }

    private Text textAt(int text) {
        return text >= 0 && text < texts.length ? texts[text] : null;
    }

    /** One of ASKERS as things stand now, to be thought about; null if there is none such. */
    private Visit visitOf(int one) {
        Asker asker = seat(one);
        if (asker == null) return null;
        int behind = one + 1 < askerCount ? one + 1 : 0;
        // One who is alone has no next one.
        Asker next = behind == one ? null : seat(behind);
        int nextHad = next == null ? 0 : next.had;
        thought.begin(asker, nextHad, today, textAt(rule));
        return thought;
    }

    /** The sets of 1 to 3 THINGS, in the order in which the first of like ones is meant. */
    private void fillFewSets() {
        int filled = 0;
        for (int size = 1; size <= MOST_OF_FEW; size++) {
            for (int set = 1; set <= ALL; set++) {
                if (Integer.bitCount(set) == size && filled < fewSets.length) {
                    fewSets[filled] = set;
                    filled++;
                }
            }
        }
    }

    private int neverGiven(int one) {
        Visit visit = visitOf(one);
        if (visit == null) return ALL;
        int given = 0;
        for (int i = 0; i < fewSets.length; i++) {
            int thing = visit.givenBy(fewSets[i]);
            if (isThing(thing)) given |= 1 << thing;
        }
        return ALL & ~given;
    }

    /** 0, or why the sheet's row of sets can't be asked for. */
    private static int rowRefusal(Sheet sets) {
        if (sets.isMissing()) return MISSING_ROW;
        for (int i = 0; i < sets.size; i++) {
            if (!isAsked(sets.at(i))) return NO_SUCH_SET;
        }
        return 0;
    }

    private static void askInRow(Visit visit, Sheet sets) {
        for (int i = 0; i < sets.size; i++) visit.askFor(sets.at(i));
    }

    private static int fewestLeaving(Visit visit, int thing) {
        int best = NONE;
        int fewest = THINGS + 1;
        for (int set = 1; set <= ALL; set++) {
            int size = Integer.bitCount(set);
            boolean better = size < fewest && (set >> thing & 1) == 0;
            if (better && visit.openBy(set) == 1 << thing) {
                best = set;
                fewest = size;
            }
        }
        return best;
    }

    private int gladdestSet(Visit visit) {
        int best = NONE;
        int most = 0;
        for (int i = 0; i < fewSets.length; i++) {
            int given = visit.givenBy(fewSets[i]);
            if (given == NONE) continue;
            int joy = visit.gladOf(given);
            if (best == NONE || joy > most) {
                best = fewSets[i];
                most = joy;
            }
        }
        return best;
    }

    private int cheapestSet(Visit visit, int thing) {
        int best = NONE;
        int least = 0;
        for (int i = 0; i < fewSets.length; i++) {
            if (visit.givenBy(fewSets[i]) != thing) continue;
            int cost = visit.costOf(fewSets[i]);
            if (best == NONE || cost < least) {
                best = fewSets[i];
                least = cost;
            }
        }
        return best;
    }

    private static boolean tellsSetsAndThings(Sheet told) {
        if (told.size % 2 != 0) return false;
        for (int i = 0; i + 1 < told.size; i += 2) {
            int set = told.at(i);
            if (set < 0 || set > ALL || !isThing(told.at(i + 1))) return false;
        }
        return true;
    }

    private static boolean isRuledOut(Sheet told, int one, int other) {
        for (int i = 0; i + 1 < told.size; i += 2) {
            int set = told.at(i);
            int thing = told.at(i + 1);
            if (thing == one && (set >> other & 1) != 0) return true;
            if (thing == other && (set >> one & 1) != 0) return true;
        }
        return false;
    }

    private int cliques() {
        int found = 0;
        for (int a = 0; a < THINGS; a++) {
            for (int b = 0; b < a; b++) {
                if ((likesOf(a) >> b & 1) == 0) continue;
                int belowBoth = likesOf(a) & likesOf(b) & ((1 << b) - 1);
                found += Integer.bitCount(belowBoth);
            }
        }
        return found;
    }

    private int nearest() {
        int near = 0;
        for (int thing = 1; thing < THINGS; thing++) {
            if (Integer.bitCount(likesOf(thing)) > Integer.bitCount(likesOf(near))) near = thing;
        }
        return near;
    }

    private int likeTwos() {
        int ends = 0;
        for (int thing = 0; thing < THINGS; thing++) ends += Integer.bitCount(likesOf(thing));
        return ends / 2;
    }

    /** A part of above / below in lowest terms: 0 what is above the line, 1 what is below it. */
    private static long lowest(int above, int below, int part) {
        int a = below;
        int b = above;
        for (int turn = 0; turn < 64 && b != 0; turn++) {
            int left = a % b;
            a = b;
            b = left;
        }
        int shown = part == 0 ? above : below;
        return a == 0 ? shown : shown / a;
    }

    private static int firstOther(Sheet told, Visit visit) {
        for (int i = 0; i < told.size && i < THINGS; i++) {
            if (told.at(i) != visit.givenBy(1 << i)) return i;
        }
        return NONE;
    }

    private static int fittingKinds(Sheet told, Visit visit) {
        int fitting = 0;
        for (int kind = 0; kind < KINDS; kind++) {
            visit.kind = kind;
            if (firstOther(told, visit) == NONE) fitting |= 1 << kind;
        }
        return fitting;
    }

    private static int fittingNumbers(Sheet told, Visit visit) {
        int fitting = 0;
        for (int number = 0; number <= LAST_NUMBER; number++) {
            visit.number = number;
            if (firstOther(told, visit) == NONE) fitting |= 1 << number;
        }
        return fitting;
    }

    private static int fittingDays(Sheet told, Visit visit) {
        int fitting = 0;
        for (int day = 0; day < TOLD_DAYS; day++) {
            visit.day = day;
            if (firstOther(told, visit) == NONE) fitting++;
        }
        return fitting;
    }

    private static int firstFittingDay(Sheet told, Visit visit) {
        for (int day = 0; day < TOLD_DAYS; day++) {
            visit.day = day;
            if (firstOther(told, visit) == NONE) return day;
        }
        return NONE;
    }

    private static int fittingThings(Sheet told, Visit visit) {
        int fitting = 0;
        int shutNow = visit.shut;
        for (int thing = 0; thing < THINGS; thing++) {
            visit.shut = shutNow ^ 1 << thing;
            if (firstOther(told, visit) == NONE) fitting |= 1 << thing;
        }
        return fitting;
    }

    private int fittingTexts(Sheet told, Visit visit) {
        int fitting = 0;
        for (int text = 0; text < textCount && text < MOST_TEXTS; text++) {
            visit.rule = textAt(text);
            if (firstOther(told, visit) == NONE) fitting |= 1 << text;
        }
        return fitting;
    }

    private int fittingAskers(Sheet told) {
        int fitting = 0;
        for (int one = 0; one < MOST_ASKERS; one++) {
            Visit visit = visitOf(one);
            if (visit != null && firstOther(told, visit) == NONE) fitting |= 1 << one;
        }
        return fitting;
    }

    private static int hadByDrawing(Visit visit, int seed, int n) {
        int z = seed;
        for (int i = 0; i < n; i++) {
            z = z * 1103515245 + 12345;
            visit.askFor(1 << (z >>> 9) % THINGS);
            visit.day++;
        }
        return Integer.bitCount(visit.had);
    }

    /** One of ASKERS, as it is kept. */
    private static final class Asker {
        int kind, number, shut, had, spent;

        void come(int newKind, int newNumber) {
            kind = newKind;
            number = newNumber;
            shut = 0;
            had = 0;
            spent = 0;
        }

        void becomeLike(Asker other) {
            kind = other.kind;
            number = other.number;
            shut = other.shut;
            had = other.had;
            spent = other.spent;
        }

        int tell(int what) {
            switch (what) {
                case 1: return number;
                case 2: return shut;
                case 3: return had;
                case 4: return spent;
                default: return kind;
            }
        }

        void change(int what, int v) {
            switch (what) {
                case 1: number = v; break;
                case 2: shut = v; break;
                case 3: had = v; break;
                case 4: spent = v; break;
                default: break;
            }
        }
    }

    /** One of ASKERS in thought, with all that the well's answers to it hang on. */
    private static final class Visit {
        private final int[] likes;
        private final int[] names = new int[Text.NAMES];
        Text rule;
        int kind, number, shut, had, spent, nextHad, day;
        int last, gifts, misses, joy, paid;

        Visit(int[] likes) {
            this.likes = likes;
        }

        void begin(Asker asker, int hadByNext, int today, Text ruling) {
            kind = asker.kind;
            number = asker.number;
            shut = asker.shut;
            had = asker.had;
            spent = asker.spent;
            nextHad = hadByNext;
            day = today;
            rule = ruling;
            last = NONE;
            gifts = 0;
            misses = 0;
            joy = 0;
            paid = 0;
        }

        /** What askings changed in thought becomes true. */
        void leaveTo(Asker asker) {
            asker.shut = shut;
            asker.had = had;
            asker.spent = spent;
        }

        int openBy(int set) {
            int others = ALL & ~set;
            switch (kind) {
                case CLERK: return others & ~likeTwoOf(set) & ~shut;
                case TWIN: return others & ~likeAnyOf(set) & ~shut & ~nextHad;
                case BISHOP: return others & ~likeTwoOf(set);
                case GREEDY: return openToGreedy(others, likeAnyOf(set));
                case OLD: return others & ~likeAnyOf(set) & ~shut & ~had;
                default: return others & ~likeAnyOf(set) & ~shut;
            }
        }

        private int openToGreedy(int others, int near) {
            return others & ~near & ~likeAnyOf(near) & ~shut & ~nextHad;
        }

        private int likeAnyOf(int set) {
            int found = 0;
            for (int i = 0; i < likes.length; i++) {
                if ((set >> i & 1) != 0) found |= likes[i];
            }
            return found;
        }

        private int likeTwoOf(int set) {
            int once = 0;
            int twice = 0;
            for (int i = 0; i < likes.length; i++) {
                if ((set >> i & 1) == 0) continue;
                twice |= once & likes[i];
                once |= likes[i];
            }
            return twice;
        }

        int givenBy(int set) {
            int open = openBy(set);
            int ways = Integer.bitCount(open);
            if (ways <= 0) return NONE;
            return bitAt(open, pickOf(ways, tellBy(GIVES, 0, Integer.bitCount(set), ways)));
        }

        private int pickOf(int ways, int v) {
            if (ways <= 0) return 0;
            switch (kind) {
                case CLERK: return 0;
                case TWIN: return ways - 1;
                case BISHOP: return Math.floorMod(number, ways);
                case GREEDY: return day % 2 == 0 ? Math.floorMod(v, ways) : ways - 1;
                default: return Math.floorMod(v, ways);
            }
        }

        private static int bitAt(int bits, int place) {
            int ahead = place;
            for (int i = 0; i < THINGS; i++) {
                if ((bits >> i & 1) == 0) continue;
                if (ahead == 0) return i;
                ahead--;
            }
            return NONE;
        }

        int shutBy(int set) {
            switch (kind) {
                case CLERK: case BISHOP: return set & -set;
                case TWIN: case GREEDY: return set | likeAnyOf(set);
                case OLD: return 0;
                default: return set;
            }
        }

        int costOf(int set) {
            return Math.max(0, Math.min(99, tellBy(COSTS, 0, Integer.bitCount(set), 0)));
        }

        int gladOf(int thing) {
            int v = tellBy(GLADS, thing, 0, 0);
            switch (kind) {
                case CLERK: return v / 2;
                case TWIN: return gladAsTwin(thing, v);
                case BISHOP: return bounded(v / 2 + number);
                case GREEDY: return bounded(2 * gladAsTwin(thing, v));
                case OLD: return 9;
                default: return v;
            }
        }

        private int gladAsTwin(int thing, int v) {
            return (nextHad >> thing & 1) != 0 ? 0 : v;
        }

        private static int bounded(int v) {
            return Math.max(-99, Math.min(99, v));
        }

        private int tellBy(int part, int thing, int words, int ways) {
            if (rule == null) return 0;
            put(Text.THING, thing);
            put(Text.WORDS, words);
            put(Text.WAYS, ways);
            put(Text.NUMBER, number);
            put(Text.DAY, day);
            put(Text.HAD, Integer.bitCount(had));
            return bounded(rule.valueOf(part, names));
        }

        private void put(int name, int v) {
            int i = Text.placeOf(name);
            if (i >= 0 && i < names.length) names[i] = v;
        }

        /** ASKED in thought: all is told ahead, as the asking finds it. */
        int askFor(int set) {
            int given = givenBy(set);
            int shuts = shutBy(set);
            int cost = costOf(set);
            if (given == NONE) {
                misses++;
            } else {
                gifts++;
                joy += gladOf(given);
                had |= 1 << given;
            }
            shut |= shuts;
            paid += cost;
            spent = Math.min(MOST_SPENT, spent + cost);
            last = given;
            return given;
        }
    }

    /** A TEXT: its three parts, one behind the other, operators behind what they work on. */
    private static final class Text {
        static final int THING = -1, WORDS = -2, WAYS = -3, NUMBER = -4, DAY = -5, HAD = -6;
        static final int NAMES = 6;
        static final int ADD = -11, SUBTRACT = -12, MULTIPLY = -13, LESS = -14, EQUAL = -15;
        static final int AND = -16, OR = -17, NOT = -18, NEGATE = -19;
        private static final int HEIGHT = 64;

        private final int[] codes = new int[MOST_TAPE];
        private final int[] ends = new int[PARTS];
        private final int[] stack = new int[HEIGHT];
        private int size;
        private int parts;
        private int top;

        static int placeOf(int name) {
            return THING - name;
        }

        static boolean isName(int code) {
            return code <= THING && code >= HAD;
        }

        void clear() {
            size = 0;
            parts = 0;
        }

        /** Behind the others comes a number (0 or more), a name or an operator. */
        void add(int code) {
            if (size < 0 || size >= codes.length) return;
            codes[size] = code;
            size++;
        }

        void endPart() {
            if (parts < 0 || parts >= ends.length) return;
            ends[parts] = size;
            parts++;
        }

        void becomeFirst() {
            clear();
            add(DAY);
            endPart();
            add(THING);
            endPart();
            add(WORDS);
            endPart();
        }

        int valueOf(int part, int[] names) {
            if (part < 0 || part >= parts || part >= ends.length) return 0;
            int from = part == 0 ? 0 : ends[part - 1];
            top = 0;
            for (int i = from; i >= 0 && i < ends[part] && i < codes.length; i++) {
                int name = placeOf(codes[i]);
                if (codes[i] >= 0) push(codes[i]);
                else if (name >= 0 && name < names.length) push(names[name]);
                else if (codes[i] == NOT || codes[i] == NEGATE) workOnOne(codes[i]);
                else workOnTwo(codes[i]);
            }
            return stack[0];
        }

        private void push(int v) {
            if (top < 0 || top >= stack.length) return;
            stack[top] = v;
            top++;
        }

        private void workOnOne(int code) {
            int last = top - 1;
            if (last < 0 || last >= stack.length) return;
            if (code == NEGATE) stack[last] = -stack[last];
            else stack[last] = stack[last] == 0 ? 1 : 0;
        }

        private void workOnTwo(int code) {
            int last = top - 1;
            if (last < 1 || last >= stack.length) return;
            int a = stack[last - 1];
            int b = stack[last];
            top = last;
            switch (code) {
                case ADD: stack[last - 1] = a + b; break;
                case SUBTRACT: stack[last - 1] = a - b; break;
                case MULTIPLY: stack[last - 1] = a * b; break;
                case LESS: stack[last - 1] = a < b ? 1 : 0; break;
                case EQUAL: stack[last - 1] = a == b ? 1 : 0; break;
                case AND: stack[last - 1] = a != 0 && b != 0 ? 1 : 0; break;
                default: stack[last - 1] = a != 0 || b != 0 ? 1 : 0; break;
            }
        }
    }

    /** The TOKENS of THE TAPE; END stands behind them, or WRONG where none can be read. */
    private static final class Tokens {
        // A token is a sign's own byte, a name's code in a TEXT, or one of these.
        static final int OR = 1, AND = 2, NOT = 3, KEY_GIVES = 4, KEY_GLADS = 5, KEY_COSTS = 6;
        static final int NUMBER = 7, END = 8, WRONG = 9;
        private static final int DIGITS = 4;

        private final int[] bytes;
        private final int[] sorts = new int[MOST_TAPE + 1];
        private final int[] starts = new int[MOST_TAPE + 1];
        private final int[] values = new int[MOST_TAPE + 1];
        private int size;
        private int start;
        private int end;
        private int value;

        Tokens(int[] bytes) {
            this.bytes = bytes;
        }

        int sortOf(int i) {
            return i >= 0 && i < sorts.length ? sorts[i] : END;
        }

        int startOf(int i) {
            return i >= 0 && i < starts.length ? starts[i] : size;
        }

        int valueOf(int i) {
            return i >= 0 && i < values.length ? values[i] : 0;
        }

        void scan(int howManyBytes) {
            size = howManyBytes;
            end = 0;
            int sort = NUMBER;
            for (int i = 0; i < sorts.length && sort != END && sort != WRONG; i++) {
                sort = scanOne();
                sorts[i] = sort;
                starts[i] = start;
                values[i] = value;
            }
        }

        private int scanOne() {
            start = end;
            for (int i = 0; i < MOST_TAPE && isBlank(byteAt(start)); i++) start++;
            int first = byteAt(start);
            end = start + 1;
            value = 0;
            if (first == NONE) return END;
            if (isLetter(first)) return scanWord();
            if (isDigit(first)) return scanNumber();
            return isSign(first) ? first : WRONG;
        }

        private int byteAt(int i) {
            return i >= 0 && i < size && i < bytes.length ? bytes[i] : NONE;
        }

        private static boolean isBlank(int letter) {
            return letter == 32 || letter == 10;
        }

        private static boolean isLetter(int letter) {
            return letter >= 'a' && letter <= 'z';
        }

        private static boolean isDigit(int letter) {
            return letter >= '0' && letter <= '9';
        }

        private static boolean isSign(int letter) {
            switch (letter) {
                case '(': case ')': case ';': case '+': case '-': case '*': case '<': case '=': return true;
                default: return false;
            }
        }

        private int scanNumber() {
            for (int i = 0; i < MOST_TAPE && isDigit(byteAt(end)); i++) end++;
            if (end - start > DIGITS) return WRONG;
            for (int i = start; i < end; i++) value = value * 10 + byteAt(i) - '0';
            return NUMBER;
        }

        private int scanWord() {
            for (int i = 0; i < MOST_TAPE && isLetter(byteAt(end)); i++) end++;
            if (isWord("thing")) return Text.THING;
            if (isWord("words")) return Text.WORDS;
            if (isWord("ways")) return Text.WAYS;
            if (isWord("number")) return Text.NUMBER;
            if (isWord("day")) return Text.DAY;
            if (isWord("had")) return Text.HAD;
            if (isWord("gives")) return KEY_GIVES;
            if (isWord("glads")) return KEY_GLADS;
            if (isWord("costs")) return KEY_COSTS;
            if (isWord("or")) return OR;
            if (isWord("and")) return AND;
            return isWord("not") ? NOT : WRONG;
        }

        private boolean isWord(String word) {
            if (end - start != word.length()) return false;
            for (int i = 0; i < word.length(); i++) {
                if (byteAt(start + i) != word.charAt(i)) return false;
            }
            return true;
        }
    }

    /** Reads a TEXT from its TOKENS, a method for each line of the grammar. */
    private static final class Reader {
        private final Tokens tokens;
        private Text text;
        private int at;
        private int token;
        private int fault;

        Reader(int[] tape) {
            tokens = new Tokens(tape);
        }

        /** The place of the first FAULT, or NONE: then into holds what was read. */
        int read(int howManyBytes, Text into) {
            into.clear();
            text = into;
            tokens.scan(howManyBytes);
            at = 0;
            token = tokens.sortOf(0);
            fault = NONE;
            readPart(Tokens.KEY_GIVES);
            readPart(Tokens.KEY_GLADS);
            readPart(Tokens.KEY_COSTS);
            if (token != Tokens.END) fail();
            return fault;
        }

        private void readPart(int key) {
            expect(key);
            readEither(0);
            expect(';');
            if (text != null) text.endPart();
        }

        /** E; of ( , not and - so many are open ahead of it. */
        private void readEither(int open) {
            readBoth(open);
            for (int i = 0; i < MOST_TAPE && token == Tokens.OR; i++) {
                advance();
                readBoth(open);
                add(Text.OR);
            }
        }

        private void readBoth(int open) {
            readNot(open);
            for (int i = 0; i < MOST_TAPE && token == Tokens.AND; i++) {
                advance();
                readNot(open);
                add(Text.AND);
            }
        }

        private void readNot(int open) {
            if (token == Tokens.NOT) {
                if (!mayOpen(open)) return;
                advance();
                readNot(open + 1);
                add(Text.NOT);
                return;
            }
            readSum(open);
            if (token != '<' && token != '=') return;
            int code = token == '<' ? Text.LESS : Text.EQUAL;
            advance();
            readSum(open);
            add(code);
        }

        private void readSum(int open) {
            readTerm(open);
            for (int i = 0; i < MOST_TAPE && (token == '+' || token == '-'); i++) {
                int code = token == '+' ? Text.ADD : Text.SUBTRACT;
                advance();
                readTerm(open);
                add(code);
            }
        }

        private void readTerm(int open) {
            readOne(open);
            for (int i = 0; i < MOST_TAPE && token == '*'; i++) {
                advance();
                readOne(open);
                add(Text.MULTIPLY);
            }
        }

        private void readOne(int open) {
            if (token == Tokens.NUMBER || Text.isName(token)) {
                add(token == Tokens.NUMBER ? tokens.valueOf(at) : token);
                advance();
            } else if (token == '-' && mayOpen(open)) {
                advance();
                readOne(open + 1);
                add(Text.NEGATE);
            } else if (token == '(' && mayOpen(open)) {
                advance();
                readEither(open + 1);
                expect(')');
            } else {
                fail();
            }
        }

        private boolean mayOpen(int open) {
            if (open < MOST_OPEN) return true;
            fail();
            return false;
        }

        private void expect(int wanted) {
            if (token == wanted) advance();
            else fail();
        }

        /** The first FAULT stays; WRONG lets nothing be read behind it. */
        private void fail() {
            if (fault == NONE) fault = tokens.startOf(at);
            token = Tokens.WRONG;
        }

        private void add(int code) {
            if (text != null) text.add(code);
        }

        private void advance() {
            at++;
            token = tokens.sortOf(at);
        }
    }

    /** A SHEET: a row of numbers of a sort, or missing (sort NONE). */
    private static final class Sheet {
        final int[] cells = new int[MOST_CELLS];
        int sort = NONE;
        int size;

        void become(int newSort, int n) {
            sort = newSort;
            size = Math.max(0, Math.min(n, cells.length));
            for (int i = 0; i < cells.length; i++) cells[i] = 0;
        }

        boolean isMissing() {
            return sort == NONE;
        }

        boolean holds(int from, int n) {
            return from >= 0 && n >= 0 && from <= size - n;
        }

        int at(int i) {
            return i >= 0 && i < size && i < cells.length ? cells[i] : 0;
        }

        void put(int i, int v) {
            if (i < 0 || i >= size || i >= cells.length) return;
            cells[i] = sort == BYTES ? (byte) v : sort == SHORTS ? (short) v : v;
        }
    }

    /** THE IMAGE; askerCount is NONE while there is none. */
    private static final class Picture {
        private final int[] keptLikes = new int[THINGS];
        private final Asker[] keptAskers = new Asker[MOST_ASKERS];
        int today;
        int rule;
        int askerCount = NONE;

        Picture() {
            for (int i = 0; i < keptAskers.length; i++) keptAskers[i] = new Asker();
        }

        void keep(int[] likes, Asker[] seats, int count) {
            copyLikes(likes, keptLikes);
            copyAskers(seats, keptAskers);
            askerCount = count;
        }

        void layBack(int[] likes, Asker[] seats) {
            copyLikes(keptLikes, likes);
            copyAskers(keptAskers, seats);
        }

        private static void copyLikes(int[] from, int[] to) {
            for (int i = 0; i < from.length && i < to.length; i++) to[i] = from[i];
        }

        private static void copyAskers(Asker[] from, Asker[] to) {
            for (int i = 0; i < from.length && i < to.length; i++) {
                if (from[i] != null && to[i] != null) to[i].becomeLike(from[i]);
            }
        }
    }
}
