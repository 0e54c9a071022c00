import java.util.NoSuchElementException;

/** A start line in its last seconds: boats, rules, seconds, races; ../shared/DOC.md says what each call promises. */
public final class GunLine {
    public static final int NONE = -1;
    public static final int HIDDEN = -1000000;

    private static final int NO_SORT = -2;
    private static final int WATER = 0;
    private static final int RULE = 1;
    private static final int MOST_BOATS = 8;
    private static final int MOST_GUST = 99;
    private static final int MOST_SEASON = 20;
    private static final int FURTHEST_BACK = 19;
    private static final int FURTHEST_ROW = 9;

    private final Tape tape = new Tape();
    private final RuleBook rules = new RuleBook();
    private final WaterReader waterReader = new WaterReader(tape);
    private final RuleReader ruleReader = new RuleReader(tape);
    private final Course course = new Course();
    private final Course trialCourse = new Course();
    private final Fleet told = new Fleet();
    private final Fleet fleet = new Fleet();
    private final Fleet trial = new Fleet();
    private final Fleet holding = new Fleet();
    private final Fleet kept = new Fleet();
    private final Mover mover = new Mover(rules);
    private final Draws draws = new Draws();
    private final Acts acts = new Acts();
    private final Thirds thirds = new Thirds();
    private final Records records = new Records();
    private boolean hasImage;
    private int gustNow;

    public GunLine() {
    }

    public int feed(int a, int b, int c, int d, int e) {
        int more = Tape.bytesOf(a) + Tape.bytesOf(b) + Tape.bytesOf(c) + Tape.bytesOf(d) + Tape.bytesOf(e);
        if (tape.length + more > Tape.ROOM) {
            return NONE;
        }
        tape.append(a);
        tape.append(b);
        tape.append(c);
        tape.append(d);
        tape.append(e);
        return tape.length;
    }

    public boolean end(int n) {
        if (n < 0 || n > tape.length) {
            return false;
        }
        tape.length = n;
        return true;
    }

    public int fault(int sort) {
        if (sort == WATER) {
            return waterReader.findFault();
        }
        if (sort == RULE) {
            return ruleReader.findFault();
        }
        return NO_SORT;
    }

    public int text(int sort) {
        if (sort == WATER) {
            return takeWater();
        }
        if (sort == RULE) {
            return takeRule();
        }
        return NONE;
    }

    private int takeWater() {
        if (waterReader.findFault() != NONE) {
            return NONE;
        }
        course.copyFrom(waterReader.course);
        told.copyFrom(waterReader.fleet);
        fleet.copyFrom(told);
        acts.forget();
        records.forget();
        hasImage = false;
        tape.length = 0;
        return fleet.count;
    }

    private int takeRule() {
        if (rules.count >= RuleBook.ROOM || ruleReader.findFault() != NONE) {
            return NONE;
        }
        tape.length = 0;
        return rules.add(ruleReader.code, ruleReader.size);
    }

    public int boat(int boat, int what) throws NoSuchElementException {
        if (!isBoat(boat) || what < 0 || what > 11) {
            throw new NoSuchElementException();
        }
        switch (what) {
            case 0: return fleet.column[boat];
            case 1: return fleet.back[boat];
            case 2: return fleet.speed[boat];
            case 3: return fleet.most[boat];
            case 4: return fleet.slip[boat];
            case 5: return fleet.rule[boat];
            case 6: return fleet.mark[boat];
            case 7: return fleet.early[boat];
            case 8: return course.statusOf(fleet, boat);
            case 9: return course.scoreOf(fleet, boat);
            case 10: return course.placeOf(fleet, boat);
            default: return fleet.believedBack(boat);
        }
    }

    public int line(int what) {
        if (!hasWater() || what < 0 || what >= Course.SORTS) {
            return NONE;
        }
        return course.value[what];
    }

    public int rule(int boat, int rule) {
        if (!isBoat(boat) || rule < NONE || rule >= RuleBook.ROOM || fleet.rule[boat] == rule) {
            return NONE;
        }
        acts.remember(fleet);
        fleet.rule[boat] = rule;
        return acts.count;
    }

    public int mark(int boat) {
        if (!isBoat(boat) || fleet.mark[boat] == 1) {
            return NONE;
        }
        acts.remember(fleet);
        fleet.mark[boat] = 1;
        return acts.count;
    }

    public int speed(int boat, int v) {
        if (!isBoat(boat) || v < 0 || v > fleet.most[boat] || fleet.speed[boat] == v) {
            return NONE;
        }
        acts.remember(fleet);
        fleet.speed[boat] = v;
        return acts.count;
    }

    public int steer(int boat, int by) {
        if (!isBoat(boat) || (by != -1 && by != 1)) {
            return NONE;
        }
        int column = fleet.column[boat] + by;
        if (!course.hasColumn(column) || fleet.isHeld(column, fleet.back[boat])) {
            return NONE;
        }
        acts.remember(fleet);
        fleet.column[boat] = column;
        return column;
    }

    public boolean gust(int v) {
        if (v < 0 || v > MOST_GUST || v == gustNow) {
            return false;
        }
        gustNow = v;
        return true;
    }

    public int go(int n) {
        if (!canPass(n)) {
            return NONE;
        }
        for (int i = 0; i < n; i++) {
            acts.remember(fleet);
            mover.passSecond(course, fleet);
        }
        return fleet.second;
    }

    public int blow(int n, long seed) {
        if (!canPass(n)) {
            return NONE;
        }
        draws.begin(seed);
        for (int i = 0; i < n; i++) {
            acts.remember(fleet);
            mover.passGustySecond(course, fleet, draws, gustNow);
        }
        return fleet.second;
    }

    private boolean canPass(int n) {
        return hasWater() && n >= 1 && n <= course.secondsLeft(fleet);
    }

    public int undo() {
        if (acts.count == 0) {
            return NONE;
        }
        acts.takeBack(fleet);
        return acts.count;
    }

    public int ahead(int boat, int what) {
        if (!isBoat(boat) || what < 0 || what > 5) {
            return HIDDEN;
        }
        trial.copyFrom(fleet);
        mover.passToGun(course, trial);
        switch (what) {
            case 0: return trial.column[boat];
            case 1: return trial.back[boat];
            case 2: return trial.speed[boat];
            case 3: return course.statusOf(trial, boat);
            case 4: return course.scoreOf(trial, boat);
            default: return course.placeOf(trial, boat);
        }
    }

    public int where(int boat, int what) {
        if (!isBoat(boat) || !isChoice(what)) {
            return HIDDEN;
        }
        int best = HIDDEN;
        int bestColumn = HIDDEN;
        for (int column = 0; column < course.value[Course.WIDTH]; column++) {
            if (column != fleet.column[boat] && fleet.isHeld(column, fleet.back[boat])) {
                continue;
            }
            int score = scoreFrom(boat, column, fleet.back[boat]);
            if (score > best) {
                best = score;
                bestColumn = column;
            }
        }
        return what == 0 ? bestColumn : best;
    }

    public int near(int boat, int what) {
        if (!isBoat(boat) || !isChoice(what)) {
            return HIDDEN;
        }
        int best = HIDDEN;
        int bestBack = HIDDEN;
        for (int back = 0; back <= FURTHEST_BACK; back++) {
            if (back != fleet.back[boat] && fleet.isHeld(fleet.column[boat], back)) {
                continue;
            }
            int score = scoreFrom(boat, fleet.column[boat], back);
            if (score > best) {
                best = score;
                bestBack = back;
            }
        }
        return what == 0 ? bestBack : best;
    }

    public int hold(int boat, int what) {
        if (!isBoat(boat) || !isChoice(what)) {
            return HIDDEN;
        }
        int best = HIDDEN;
        int bestHold = HIDDEN;
        int left = course.secondsLeft(fleet);
        holding.copyFrom(fleet);
        for (int held = 0; held <= left; held++) {
            trial.copyFrom(holding);
            mover.passToGunReleased(course, trial, boat);
            int score = course.scoreOf(trial, boat);
            if (score > best) {
                best = score;
                bestHold = held;
            }
            mover.passHeldSecond(course, holding, boat);
        }
        return what == 0 ? bestHold : best;
    }

    public int row(int boat, int n) {
        if (!isBoat(boat) || n < 1 || n > FURTHEST_ROW) {
            return HIDDEN;
        }
        int back = fleet.back[boat] + n;
        if (fleet.isHeld(fleet.column[boat], back)) {
            return HIDDEN;
        }
        return scoreFrom(boat, fleet.column[boat], back);
    }

    private int scoreFrom(int boat, int column, int back) {
        trial.copyFrom(fleet);
        trial.column[boat] = column;
        trial.back[boat] = back;
        mover.passToGun(course, trial);
        return course.scoreOf(trial, boat);
    }

    public int tides() {
        if (!hasWater()) {
            return NONE;
        }
        int tide = course.value[Course.TIDE];
        if (tide == 0) {
            return 0;
        }
        return course.value[Course.SECONDS] / tide - fleet.second / tide;
    }

    public int sag(int what) {
        if (!hasWater() || !isChoice(what)) {
            return HIDDEN;
        }
        int middle = boatsIn(1);
        int others = fleet.count - middle;
        if (middle == 0 || others == 0) {
            return HIDDEN;
        }
        int above = 0;
        for (int i = 0; i < fleet.count; i++) {
            above += course.thirdOf(fleet.column[i]) == 1 ? fleet.back[i] * others : -fleet.back[i] * middle;
        }
        int below = middle * others;
        int common = greatestCommon(above < 0 ? -above : above, below);
        return (what == 0 ? above : below) / common;
    }

    /** At least 1, so that it may divide. */
    private static int greatestCommon(int one, int other) {
        int a = one;
        int b = other;
        for (int step = 0; step < 64 && b != 0; step++) {
            int rest = a % b;
            a = b;
            b = rest;
        }
        return a < 1 ? 1 : a;
    }

    public int heap(int third) {
        if (!hasWater() || third < 0 || third > 2) {
            return NONE;
        }
        return boatsIn(third);
    }

    private int boatsIn(int third) {
        int found = 0;
        for (int i = 0; i < fleet.count; i++) {
            if (course.thirdOf(fleet.column[i]) == third) {
                found++;
            }
        }
        return found;
    }

    public int hole(int boat) {
        if (!isBoat(boat)) {
            return NONE;
        }
        int free = 0;
        for (int column = fleet.column[boat] - 1; column >= 0; column--) {
            if (fleet.isHeld(column, fleet.back[boat])) {
                break;
            }
            free++;
        }
        return free;
    }

    public int keeps(int boat) {
        if (!isBoat(boat)) {
            return NONE;
        }
        trial.copyFrom(fleet);
        int left = course.secondsLeft(fleet);
        for (int gone = 0; gone <= left; gone++) {
            if (trial.isLeewardHeld(boat)) {
                return gone;
            }
            mover.passSecond(course, trial);
        }
        return NONE;
    }

    public int which(int what) {
        if (!hasWater() || what < 0 || what > 2) {
            return NONE;
        }
        int bits = 0;
        for (int i = 0; i < fleet.count; i++) {
            if (isAmong(i, what)) {
                bits |= 1 << i;
            }
        }
        return bits;
    }

    private boolean isAmong(int boat, int what) {
        switch (what) {
            case 0: return !fleet.isShadowed(boat);
            case 1: return fleet.back[boat] < 0;
            default: return course.statusOf(fleet, boat) == Course.OUT;
        }
    }

    public int rests(int i) {
        if (!hasWater()) {
            return NONE;
        }
        if (fleet.count > Thirds.MOST_PLAYERS) {
            return HIDDEN;
        }
        thirds.set(fleet.count, course.value[Course.END], course.value[Course.ASKEW]);
        return i == NONE ? thirds.countRests() : thirds.findRest(i);
    }

    public int spread(int what) {
        if (!hasWater() || !isChoice(what)) {
            return NONE;
        }
        if (fleet.count > Thirds.MOST_PLAYERS) {
            return HIDDEN;
        }
        int fewest = MOST_BOATS + 1;
        int best = 0;
        for (int askew = 0; askew <= Course.MOST_ASKEW; askew++) {
            thirds.set(fleet.count, course.value[Course.END], askew);
            int fullest = thirds.fullestOfFirstRest();
            if (fullest < fewest) {
                fewest = fullest;
                best = askew;
            }
        }
        return what == 0 ? best : fewest;
    }

    public int duel(int one, int other) {
        if (!hasWater() || !rules.has(one) || !rules.has(other)) {
            return HIDDEN;
        }
        return duelOf(one, other);
    }

    private int duelOf(int one, int other) {
        trialCourse.setForDuel(course.value[Course.SECONDS]);
        trial.setForDuel(one, other);
        mover.passToGun(trialCourse, trial);
        return trialCourse.scoreOf(trial, 0) - trialCourse.scoreOf(trial, 1);
    }

    public int reply(int rule) {
        if (!hasWater() || !rules.has(rule)) {
            return NONE;
        }
        int best = HIDDEN;
        int bestRule = NONE;
        for (int r = 0; r < rules.count; r++) {
            int worth = duelOf(r, rule);
            if (worth > best) {
                best = worth;
                bestRule = r;
            }
        }
        return bestRule;
    }

    public int strong() {
        if (!hasWater()) {
            return NONE;
        }
        int best = HIDDEN;
        int bestRule = NONE;
        for (int r = 0; r < rules.count; r++) {
            int sum = 0;
            for (int other = 0; other < rules.count; other++) {
                sum += duelOf(r, other);
            }
            if (sum > best) {
                best = sum;
                bestRule = r;
            }
        }
        return bestRule;
    }

    public int picture(int boat, int from, int to) {
        if (!isBoat(boat) || !records.canSee(from, to)) {
            return NONE;
        }
        return records.addPicture(boat, from, to);
    }

    public int was(int what) {
        if (!hasWater() || what < 0 || what > 2) {
            return NONE;
        }
        int bits = 0;
        for (int i = 0; i < fleet.count; i++) {
            if (records.isSeen(i, what)) {
                bits |= 1 << i;
            }
        }
        return bits;
    }

    public int race() {
        if (!hasWater() || course.secondsLeft(fleet) > 0 || records.races >= Records.MOST_RACES) {
            return NONE;
        }
        return records.addRace(course, fleet);
    }

    public int points(int boat) {
        return isBoat(boat) ? records.points[boat] : NONE;
    }

    public int champion() {
        if (!hasWater() || records.races == 0) {
            return NONE;
        }
        int best = 0;
        for (int i = 1; i < fleet.count; i++) {
            if (records.points[i] < records.points[best]) {
                best = i;
            }
        }
        return best;
    }

    public int season(int n, long seed) {
        if (!hasWater() || n < 1 || n > MOST_SEASON || records.races + n > Records.MOST_RACES) {
            return NONE;
        }
        draws.begin(seed);
        for (int i = 0; i < n; i++) {
            trial.copyFrom(told);
            trial.scatter(draws, course.value[Course.WIDTH]);
            mover.passToGun(course, trial);
            records.addRace(course, trial);
        }
        return records.races;
    }

    public int flag(int boat) {
        if (!isBoat(boat)) {
            return NONE;
        }
        trial.copyFrom(fleet);
        mover.passToGun(course, trial);
        trialCourse.copyFrom(course);
        trialCourse.value[Course.FLAG] = 0;
        int without = trialCourse.placeOf(trial, boat);
        trialCourse.value[Course.FLAG] = 1;
        int with = trialCourse.placeOf(trial, boat);
        return with < without ? 1 : 0;
    }

    public int image() {
        if (!hasWater()) {
            return NONE;
        }
        kept.copyFrom(fleet);
        hasImage = true;
        return fleet.second;
    }

    public int back() {
        if (!hasImage) {
            return NONE;
        }
        fleet.copyFrom(kept);
        acts.forget();
        return fleet.second;
    }

    public int count(int what) {
        switch (what) {
            case 0: return fleet.count;
            case 1: return rules.count;
            case 2: return tape.length;
            case 3: return fleet.second;
            case 4: return gustNow;
            case 5: return records.pictures;
            case 6: return records.races;
            case 7: return acts.count;
            default: return HIDDEN;
        }
    }

    private boolean hasWater() {
        return fleet.count > 0;
    }

    private boolean isBoat(int boat) {
        return boat >= 0 && boat < fleet.count;
    }

    private static boolean isChoice(int what) {
        return what == 0 || what == 1;
    }

    /** The bytes fed, and a place in them for who reads. */
    private static final class Tape {
        static final int ROOM = 240;
        static final int NO_SIGN = -1;
        private static final int BLANK = 32;

        private final int[] bytes = new int[ROOM];
        int length;
        int at;

        static int bytesOf(int number) {
            int found = 0;
            for (int shift = 24; shift >= 0; shift -= 8) {
                if (((number >>> shift) & 255) != 0) {
                    found++;
                }
            }
            return found;
        }

        void append(int number) {
            for (int shift = 24; shift >= 0; shift -= 8) {
                int value = (number >>> shift) & 255;
                if (value != 0 && length < ROOM) {
                    bytes[length] = value;
                    length++;
                }
            }
        }

        void rewind() {
            at = 0;
        }

        /** The byte at the place itself, a blank too. */
        private int rawSign() {
            return at >= 0 && at < length && at < ROOM ? bytes[at] : NO_SIGN;
        }

        /** The next byte that is no blank; the place is there then, so that a refusal leaves it at the fault. */
        int nextSign() {
            for (; at >= 0 && at < length && at < ROOM; at++) {
                if (bytes[at] != BLANK) {
                    return bytes[at];
                }
            }
            return NO_SIGN;
        }

        boolean take(int sign) {
            if (nextSign() != sign) {
                return false;
            }
            at++;
            return true;
        }

        /** A number of at most so many digits; NONE with the place at the fault. */
        int takeNumber(int mostDigits) {
            if (!isDigit(nextSign())) {
                return NONE;
            }
            int value = 0;
            for (int digits = 0; digits < mostDigits && isDigit(rawSign()); digits++) {
                value = value * 10 + rawSign() - '0';
                at++;
            }
            return isDigit(rawSign()) ? NONE : value;
        }

        static boolean isDigit(int sign) {
            return sign >= '0' && sign <= '9';
        }

        /** Which of the letters a sign is; NONE: none of them. */
        static int indexIn(String letters, int sign) {
            return sign < 1 ? NONE : letters.indexOf((char) sign);
        }
    }

    /** Reads the tape as a WATER into a line and boats of its own. */
    private static final class WaterReader {
        private static final String LINE_LETTERS = "waeudsf";
        private static final String BOAT_LETTERS = "xyvmzr";
        private static final int[] LINE_LEAST = {2, 0, 0, 0, 0, 1, 0};
        private static final int[] LINE_MOST = {20, 9, 1, 9, 9, 60, 1};
        private static final int[] LINE_USUAL = {10, 0, 0, 0, 0, 20, 0};
        private static final int[] BOAT_LEAST = {0, 0, 0, 1, 0, 0};
        private static final int[] BOAT_MOST = {19, 19, 3, 3, 9, 4};
        private static final int[] BOAT_USUAL = {0, 5, 0, 2, 5, 4};

        private final Tape tape;
        private final int[] items = new int[Course.SORTS];
        private boolean hasLine;
        final Course course = new Course();
        final Fleet fleet = new Fleet();

        WaterReader(Tape tape) {
            this.tape = tape;
        }

        int findFault() {
            tape.rewind();
            hasLine = false;
            fleet.empty();
            for (int clause = 0; clause < Tape.ROOM; clause++) {
                if (!readClause()) {
                    return tape.at;
                }
                if (!tape.take(';')) {
                    break;
                }
            }
            if (tape.nextSign() != Tape.NO_SIGN) {
                return tape.at;
            }
            return hasLine && fleet.count > 0 && fits() ? NONE : tape.length;
        }

        private boolean readClause() {
            int sign = tape.nextSign();
            if (sign == 'l' && !hasLine) {
                hasLine = true;
                return tape.take(sign) && readLine();
            }
            return sign == 'b' && fleet.count < MOST_BOATS && tape.take(sign) && readBoat();
        }

        private boolean readLine() {
            if (!readItems(LINE_LETTERS, LINE_LEAST, LINE_MOST, LINE_USUAL)) {
                return false;
            }
            System.arraycopy(items, 0, course.value, 0, Course.SORTS);
            return true;
        }

        private boolean readBoat() {
            if (!readItems(BOAT_LETTERS, BOAT_LEAST, BOAT_MOST, BOAT_USUAL)) {
                return false;
            }
            fleet.join(items);
            return true;
        }

        private boolean readItems(String letters, int[] least, int[] most, int[] usual) {
            System.arraycopy(usual, 0, items, 0, usual.length);
            int seen = 0;
            for (int n = 0; n < letters.length(); n++) {
                int item = Tape.indexIn(letters, tape.nextSign());
                if (item < 0 || (seen >> item & 1) == 1) {
                    return true;
                }
                seen |= 1 << item;
                tape.at++;
                int value = tape.takeNumber(2);
                if (value == NONE) {
                    return false;
                }
                if (value < least[item] || value > most[item]) {
                    tape.at--;
                    return false;
                }
                items[item] = value;
            }
            return true;
        }

        private boolean fits() {
            for (int i = 0; i < fleet.count; i++) {
                if (fleet.speed[i] > fleet.most[i] || !course.hasColumn(fleet.column[i])) {
                    return false;
                }
                for (int other = 0; other < i; other++) {
                    if (fleet.column[other] == fleet.column[i] && fleet.back[other] == fleet.back[i]) {
                        return false;
                    }
                }
            }
            return true;
        }
    }

    /** The line, and what boats on it are worth to it. */
    private static final class Course {
        static final int WIDTH = 0;
        static final int ASKEW = 1;
        static final int END = 2;
        static final int TIDE = 3;
        static final int DRIFT = 4;
        static final int SECONDS = 5;
        static final int FLAG = 6;
        static final int SORTS = 7;
        static final int MOST_ASKEW = 9;
        static final int OUT = 2;
        private static final int RECALLED = 1;

        final int[] value = new int[SORTS];

        void copyFrom(Course other) {
            System.arraycopy(other.value, 0, value, 0, SORTS);
        }

        void setForDuel(int seconds) {
            for (int i = 0; i < SORTS; i++) {
                value[i] = 0;
            }
            value[WIDTH] = 2;
            value[SECONDS] = seconds;
        }

        boolean hasColumn(int column) {
            return column >= 0 && column < value[WIDTH];
        }

        int thirdOf(int column) {
            return value[WIDTH] < 1 ? 0 : column * 3 / value[WIDTH];
        }

        int secondsLeft(Fleet fleet) {
            return value[SECONDS] - fleet.second;
        }

        int statusOf(Fleet fleet, int boat) {
            if (value[FLAG] == 1) {
                return fleet.early[boat] == 1 ? OUT : 0;
            }
            return fleet.back[boat] < 0 ? RECALLED : 0;
        }

        int scoreOf(Fleet fleet, int boat) {
            int score = worthOfColumn(fleet.column[boat]) + fleet.speed[boat];
            if (fleet.back[boat] > 0) {
                score -= fleet.back[boat];
            }
            if (fleet.isShadowed(boat)) {
                score -= 5;
            }
            int status = statusOf(fleet, boat);
            if (status == RECALLED) {
                score -= 30;
            }
            return status == OUT ? score - 100 : score;
        }

        private int worthOfColumn(int column) {
            int far = value[WIDTH] - 1;
            int fromWorse = value[END] == 0 ? far - column : column;
            return far < 1 ? 0 : 5 * value[ASKEW] * fromWorse / far;
        }

        int placeOf(Fleet fleet, int boat) {
            int own = scoreOf(fleet, boat);
            int place = 1;
            for (int i = 0; i < fleet.count; i++) {
                if (i == boat) {
                    continue;
                }
                int score = scoreOf(fleet, i);
                if (score > own || (score == own && i < boat)) {
                    place++;
                }
            }
            return place;
        }
    }

    /** The boats as they stand at one second. */
    private static final class Fleet {
        /** What an ACT can change, put in a row: the SECOND and six numbers of each BOAT. */
        static final int ROW = 1 + 6 * MOST_BOATS;
        private static final int NO_RULE_TOLD = 4;

        final int[] column = new int[MOST_BOATS];
        final int[] back = new int[MOST_BOATS];
        final int[] speed = new int[MOST_BOATS];
        final int[] most = new int[MOST_BOATS];
        final int[] slip = new int[MOST_BOATS];
        final int[] rule = new int[MOST_BOATS];
        final int[] mark = new int[MOST_BOATS];
        final int[] early = new int[MOST_BOATS];
        int count;
        int second;

        void empty() {
            count = 0;
            second = 0;
        }

        /** One BOAT more, by its items in the order x y v m z r. */
        void join(int[] items) {
            if (count >= MOST_BOATS || items.length < 6) {
                return;
            }
            column[count] = items[0];
            back[count] = items[1];
            speed[count] = items[2];
            most[count] = items[3];
            slip[count] = items[4];
            rule[count] = items[5] == NO_RULE_TOLD ? NONE : items[5];
            mark[count] = 0;
            early[count] = 0;
            count++;
        }

        void setForDuel(int one, int other) {
            empty();
            joinDuel(0, one);
            joinDuel(1, other);
        }

        private void joinDuel(int where, int whose) {
            column[where] = where;
            back[where] = 9;
            speed[where] = 0;
            most[where] = 2;
            slip[where] = 5;
            rule[where] = whose;
            mark[where] = 0;
            early[where] = 0;
            count = where + 1;
        }

        void copyFrom(Fleet other) {
            count = other.count;
            second = other.second;
            for (int i = 0; i < count; i++) {
                column[i] = other.column[i];
                back[i] = other.back[i];
                speed[i] = other.speed[i];
                most[i] = other.most[i];
                slip[i] = other.slip[i];
                rule[i] = other.rule[i];
                mark[i] = other.mark[i];
                early[i] = other.early[i];
            }
        }

        void writeTo(int[] rows, int from) {
            rows[from] = second;
            int at = from + 1;
            for (int i = 0; i < MOST_BOATS; i++) {
                rows[at] = column[i];
                rows[at + 1] = back[i];
                rows[at + 2] = speed[i];
                rows[at + 3] = rule[i];
                rows[at + 4] = mark[i];
                rows[at + 5] = early[i];
                at += 6;
            }
        }

        void readFrom(int[] rows, int from) {
            second = rows[from];
            int at = from + 1;
            for (int i = 0; i < MOST_BOATS; i++) {
                column[i] = rows[at];
                back[i] = rows[at + 1];
                speed[i] = rows[at + 2];
                rule[i] = rows[at + 3];
                mark[i] = rows[at + 4];
                early[i] = rows[at + 5];
                at += 6;
            }
        }

        /** New CELLS for all, by draws; who has none yet holds none. */
        void scatter(Draws draws, int width) {
            int all = count;
            for (int i = 0; i < all; i++) {
                count = i;
                int newBack = 5 + draws.next(10);
                int newColumn = draws.next(width);
                // a full row takes two BOATS at least, so fewer rows are full than there are BOATS
                for (int row = 0; row < MOST_BOATS && isRowFull(newBack, width); row++) {
                    newBack++;
                }
                for (int step = 0; step < width && isHeld(newColumn, newBack); step++) {
                    newColumn = newColumn + 1 < width ? newColumn + 1 : 0;
                }
                column[i] = newColumn;
                back[i] = newBack;
                mark[i] = 0;
                early[i] = 0;
            }
            count = all;
        }

        private boolean isRowFull(int itsBack, int width) {
            int held = 0;
            for (int i = 0; i < count; i++) {
                if (back[i] == itsBack) {
                    held++;
                }
            }
            return held >= width;
        }

        boolean isHeld(int itsColumn, int itsBack) {
            for (int i = 0; i < count; i++) {
                if (column[i] == itsColumn && back[i] == itsBack) {
                    return true;
                }
            }
            return false;
        }

        boolean isLeewardHeld(int boat) {
            return column[boat] > 0 && isHeld(column[boat] - 1, back[boat]);
        }

        boolean isShadowed(int boat) {
            for (int i = 0; i < count; i++) {
                int less = back[boat] - back[i];
                if (less >= 1 && less <= 3 && isBeside(boat, i)) {
                    return true;
                }
            }
            return false;
        }

        int countBeside(int boat) {
            int found = 0;
            for (int i = 0; i < count; i++) {
                if (i != boat && isBeside(boat, i)) {
                    found++;
                }
            }
            return found;
        }

        private boolean isBeside(int boat, int other) {
            int apart = column[boat] - column[other];
            return apart >= -1 && apart <= 1;
        }

        int believedBack(int boat) {
            return mark[boat] == 1 ? back[boat] : back[boat] + 5 - slip[boat];
        }

        void speedUp(int boat) {
            if (speed[boat] < most[boat]) {
                speed[boat]++;
            }
        }

        void slowDown(int boat) {
            if (speed[boat] > 0) {
                speed[boat]--;
            }
        }
    }

    /** Numbers drawn from a seed. */
    private static final class Draws {
        private long x;

        void begin(long seed) {
            x = seed;
        }

        int next(int k) {
            x = x * 6364136223846793005L + 1442695040888963407L;
            return k < 1 ? 0 : (int) ((x >>> 33) % k);
        }
    }

    /** Reads the tape as a RULE into code whose signs stand behind what they join. */
    private static final class RuleReader {
        private static final String LETTERS = "btvxcwl";
        private static final int MOST_WITHIN = 6;

        private final Tape tape;
        final int[] code = new int[RuleBook.LONGEST];
        int size;

        RuleReader(Tape tape) {
            this.tape = tape;
        }

        int findFault() {
            tape.rewind();
            size = 0;
            for (int clause = 0; clause < Tape.ROOM; clause++) {
                if (!readClause()) {
                    return tape.at;
                }
                if (!tape.take(';')) {
                    break;
                }
            }
            return tape.nextSign() == Tape.NO_SIGN ? NONE : tape.at;
        }

        private boolean readClause() {
            if (!tape.take('y') || !tape.take(':')) {
                return false;
            }
            int sign = tape.nextSign();
            if (sign == '!' || sign == '(') {
                return readCondition(0, false) && readAnswer();
            }
            if (!readSum(0)) {
                return false;
            }
            if (comparisonOf(tape.nextSign()) != NONE) {
                return readCondition(0, true) && readAnswer();
            }
            emit(RuleBook.STOP);
            return true;
        }

        private boolean readAnswer() {
            if (!tape.take('?')) {
                return false;
            }
            int jump = size;
            emit(RuleBook.JUMP);
            if (!readSum(0)) {
                return false;
            }
            emit(RuleBook.STOP);
            if (jump < code.length) {
                code[jump] = RuleBook.JUMP + size;
            }
            return true;
        }

        /** begun: the first SUM of it has been read, ahead of the sign that told it to be of a CONDITION. */
        private boolean readCondition(int within, boolean begun) {
            if (!readTruth(within, begun)) {
                return false;
            }
            for (int n = 0; n < Tape.ROOM && tape.take('|'); n++) {
                if (!readTruth(within, false)) {
                    return false;
                }
                emit(RuleBook.OR);
            }
            return true;
        }

        private boolean readTruth(int within, boolean begun) {
            if (!readUnit(within, begun)) {
                return false;
            }
            for (int n = 0; n < Tape.ROOM && tape.take('&'); n++) {
                if (!readUnit(within, false)) {
                    return false;
                }
                emit(RuleBook.AND);
            }
            return true;
        }

        private boolean readUnit(int within, boolean begun) {
            int sign = tape.nextSign();
            if (!begun && sign == '!') {
                if (within >= MOST_WITHIN || !tape.take(sign) || !readUnit(within + 1, false)) {
                    return false;
                }
                emit(RuleBook.NOT);
                return true;
            }
            if (!begun && sign == '(') {
                return within < MOST_WITHIN && tape.take(sign) && readCondition(within + 1, false) && tape.take(')');
            }
            if (!begun && !readSum(within)) {
                return false;
            }
            int comparison = comparisonOf(tape.nextSign());
            if (comparison == NONE) {
                return false;
            }
            tape.at++;
            if (!readSum(within)) {
                return false;
            }
            emit(comparison);
            return true;
        }

        private static int comparisonOf(int sign) {
            switch (sign) {
                case '=': return RuleBook.EQUAL;
                case '<': return RuleBook.LESS;
                case '>': return RuleBook.GREATER;
                default: return NONE;
            }
        }

        private boolean readSum(int within) {
            if (!readTerm(within)) {
                return false;
            }
            for (int n = 0; n < Tape.ROOM; n++) {
                int sign = tape.nextSign();
                if (sign != '+' && sign != '-') {
                    break;
                }
                if (!tape.take(sign) || !readTerm(within)) {
                    return false;
                }
                emit(sign == '+' ? RuleBook.PLUS : RuleBook.MINUS);
            }
            return true;
        }

        private boolean readTerm(int within) {
            if (!readAtom(within)) {
                return false;
            }
            for (int n = 0; n < Tape.ROOM; n++) {
                int sign = tape.nextSign();
                if (sign != '*' && sign != '/') {
                    break;
                }
                if (!tape.take(sign) || !readAtom(within)) {
                    return false;
                }
                emit(sign == '*' ? RuleBook.TIMES : RuleBook.BY);
            }
            return true;
        }

        private boolean readAtom(int within) {
            int sign = tape.nextSign();
            if (sign == '[') {
                return within < MOST_WITHIN && tape.take(sign) && readSum(within + 1) && tape.take(']');
            }
            int letter = Tape.indexIn(LETTERS, sign);
            if (letter >= 0) {
                emit(RuleBook.LETTER + letter);
                return tape.take(sign);
            }
            int number = tape.takeNumber(4);
            if (number == NONE) {
                return false;
            }
            emit(number);
            return true;
        }

        /** A code never has more steps than its text has signs. */
        private void emit(int step) {
            if (size < code.length) {
                code[size] = step;
                size++;
            }
        }
    }

    /** The RULES as codes, and what they are worth. */
    private static final class RuleBook {
        static final int ROOM = 4;
        static final int LONGEST = Tape.ROOM;
        static final int LETTERS = 7;
        /** Steps below are numbers; from here on letters. */
        static final int LETTER = 10000;
        static final int PLUS = 20000;
        static final int MINUS = 20001;
        static final int TIMES = 20002;
        static final int BY = 20003;
        static final int EQUAL = 20004;
        static final int LESS = 20005;
        static final int GREATER = 20006;
        static final int AND = 20007;
        static final int OR = 20008;
        static final int NOT = 20009;
        static final int STOP = 20010;
        /** And where to go on, if what stands on the pile is not so. */
        static final int JUMP = 30000;
        private static final int BOUND = 1000000;
        /** Six within one another leave three waiting each, far fewer than this. */
        private static final int PILE = 64;

        private final int[][] codes = new int[ROOM][LONGEST];
        private final int[] sizes = new int[ROOM];
        private final int[] pile = new int[PILE];
        int count;

        boolean has(int rule) {
            return rule >= 0 && rule < count;
        }

        int add(int[] code, int size) {
            if (count >= ROOM || size > LONGEST || size > code.length) {
                return NONE;
            }
            System.arraycopy(code, 0, codes[count], 0, size);
            sizes[count] = size;
            count++;
            return count - 1;
        }

        int worthOf(int rule, int[] letters) {
            if (!has(rule)) {
                return 0;
            }
            int[] code = codes[rule];
            int size = sizes[rule];
            int top = 0;
            for (int at = 0; at < size; at++) {
                int step = code[at];
                if (step < PLUS) {
                    if (top >= PILE) {
                        return 0;
                    }
                    pile[top] = step < LETTER ? step : letterAt(letters, step - LETTER);
                    top++;
                } else if (top < 1 || step == STOP) {
                    return top < 1 ? 0 : pile[top - 1];
                } else if (step == NOT) {
                    pile[top - 1] = 1 - pile[top - 1];
                } else if (step >= JUMP) {
                    top--;
                    if (pile[top] == 0 && step - JUMP > at) {
                        at = step - JUMP - 1;
                    }
                } else {
                    if (top < 2) {
                        return 0;
                    }
                    top--;
                    pile[top - 1] = bounded(join(step, pile[top - 1], pile[top]));
                }
            }
            return 0;
        }

        private static int letterAt(int[] letters, int letter) {
            return letter >= 0 && letter < letters.length ? letters[letter] : 0;
        }

        private static long join(int step, int a, int b) {
            switch (step) {
                case PLUS: return (long) a + b;
                case MINUS: return (long) a - b;
                case TIMES: return (long) a * b;
                case BY: return b == 0 ? 0 : a / b;
                case EQUAL: return a == b ? 1 : 0;
                case LESS: return a < b ? 1 : 0;
                case GREATER: return a > b ? 1 : 0;
                case AND: return a & b;
                default: return a | b;
            }
        }

        private static int bounded(long number) {
            if (number > BOUND) {
                return BOUND;
            }
            return number < -BOUND ? -BOUND : (int) number;
        }
    }

    /** Lets seconds pass over boats. */
    private static final class Mover {
        private static final int EARLY_FROM = 9;
        private static final int NOBODY = -1;

        private final RuleBook rules;
        private final int[] letters = new int[RuleBook.LETTERS];
        private final int[] shadow = new int[MOST_BOATS];
        private final int[] order = new int[MOST_BOATS];

        Mover(RuleBook rules) {
            this.rules = rules;
        }

        void passSecond(Course course, Fleet fleet) {
            look(fleet);
            askRules(course, fleet, NOBODY);
            moveAll(course, fleet);
        }

        void passGustySecond(Course course, Fleet fleet, Draws draws, int gust) {
            look(fleet);
            askRules(course, fleet, NOBODY);
            drawGusts(fleet, draws, gust);
            moveAll(course, fleet);
        }

        void passToGun(Course course, Fleet fleet) {
            int left = course.secondsLeft(fleet);
            for (int i = 0; i < left; i++) {
                passSecond(course, fleet);
            }
        }

        void passHeldSecond(Course course, Fleet fleet, int holder) {
            look(fleet);
            askRules(course, fleet, holder);
            fleet.speed[holder] = 0;
            moveAll(course, fleet);
        }

        /** Who has held goes off: faster each SECOND, its RULE still not asked. */
        void passToGunReleased(Course course, Fleet fleet, int holder) {
            int left = course.secondsLeft(fleet);
            for (int i = 0; i < left; i++) {
                look(fleet);
                askRules(course, fleet, holder);
                fleet.speedUp(holder);
                moveAll(course, fleet);
            }
        }

        /** Keeps, as the SECOND begins, who is SHADOWED and the order in which they go. */
        private void look(Fleet fleet) {
            for (int i = 0; i < fleet.count; i++) {
                shadow[i] = fleet.isShadowed(i) ? 1 : 0;
                int at = i;
                while (at > 0 && fleet.back[order[at - 1]] > fleet.back[i]) {
                    order[at] = order[at - 1];
                    at--;
                }
                order[at] = i;
            }
        }

        private void askRules(Course course, Fleet fleet, int notAsked) {
            for (int i = 0; i < fleet.count; i++) {
                if (i == notAsked || !rules.has(fleet.rule[i])) {
                    continue;
                }
                letters[0] = fleet.believedBack(i);
                letters[1] = course.secondsLeft(fleet);
                letters[2] = fleet.speed[i];
                letters[3] = fleet.column[i];
                letters[4] = fleet.countBeside(i);
                letters[5] = shadow[i];
                letters[6] = fleet.isLeewardHeld(i) ? 1 : 0;
                int worth = rules.worthOf(fleet.rule[i], letters);
                if (worth > 0) {
                    fleet.speedUp(i);
                } else if (worth < 0) {
                    fleet.slowDown(i);
                }
            }
        }

        private void drawGusts(Fleet fleet, Draws draws, int gust) {
            for (int i = 0; i < fleet.count; i++) {
                if (draws.next(100) >= gust) {
                    continue;
                }
                if (draws.next(2) == 0) {
                    fleet.slowDown(i);
                } else {
                    fleet.speedUp(i);
                }
            }
        }

        private void moveAll(Course course, Fleet fleet) {
            for (int i = 0; i < fleet.count; i++) {
                sail(fleet, order[i]);
            }
            fleet.second++;
            if (comesNow(course.value[Course.TIDE], fleet.second)) {
                for (int i = 0; i < fleet.count; i++) {
                    fleet.back[i]--;
                }
            }
            if (comesNow(course.value[Course.DRIFT], fleet.second)) {
                driftAll(course, fleet);
            }
            if (course.secondsLeft(fleet) <= EARLY_FROM) {
                noteEarly(fleet);
            }
        }

        private static boolean comesNow(int every, int gone) {
            return every > 0 && gone % every == 0;
        }

        private void sail(Fleet fleet, int boat) {
            int lengths = fleet.speed[boat] - shadow[boat];
            for (int i = 0; i < lengths; i++) {
                if (fleet.isHeld(fleet.column[boat], fleet.back[boat] - 1)) {
                    fleet.speed[boat] = 0;
                    return;
                }
                fleet.back[boat]--;
            }
        }

        /** From the right, so that none who has drifted is met again. */
        private static void driftAll(Course course, Fleet fleet) {
            for (int column = course.value[Course.WIDTH] - 2; column >= 0; column--) {
                for (int i = 0; i < fleet.count; i++) {
                    if (fleet.column[i] == column && !fleet.isHeld(column + 1, fleet.back[i])) {
                        fleet.column[i] = column + 1;
                    }
                }
            }
        }

        private static void noteEarly(Fleet fleet) {
            for (int i = 0; i < fleet.count; i++) {
                if (fleet.back[i] < 0) {
                    fleet.early[i] = 1;
                }
            }
        }
    }

    /** The latest ACTS: how the boats stood ahead of each, in a ring of rows. */
    private static final class Acts {
        private static final int ROOM = 40;

        private final int[] rows = new int[ROOM * Fleet.ROW];
        private int next;
        int count;

        void forget() {
            count = 0;
        }

        void remember(Fleet fleet) {
            fleet.writeTo(rows, next * Fleet.ROW);
            next = next + 1 < ROOM ? next + 1 : 0;
            if (count < ROOM) {
                count++;
            }
        }

        void takeBack(Fleet fleet) {
            if (count < 1) {
                return;
            }
            next = next > 0 ? next - 1 : ROOM - 1;
            count--;
            fleet.readFrom(rows, next * Fleet.ROW);
        }
    }

    /** The game in which each BOAT chooses a third of the line. */
    private static final class Thirds {
        static final int MOST_PLAYERS = 5;
        private static final int SORTS = 3;

        private final int[] choice = new int[MOST_PLAYERS];
        private final int[] crowd = new int[SORTS];
        private final int[] worth = new int[SORTS];
        private int players;
        private int rowCount;

        void set(int boats, int end, int askew) {
            players = boats > MOST_PLAYERS ? MOST_PLAYERS : boats;
            rowCount = 1;
            for (int i = 0; i < players; i++) {
                rowCount *= SORTS;
            }
            for (int third = 0; third < SORTS; third++) {
                int nearness = end == 0 ? 2 - third : third;
                worth[third] = 5 * askew * nearness / 2;
            }
        }

        int countRests() {
            int found = 0;
            for (int row = 0; row < rowCount; row++) {
                if (isRest(row)) {
                    found++;
                }
            }
            return found;
        }

        /** The digits of the i-th; NONE: there is none. */
        int findRest(int i) {
            int found = 0;
            for (int row = 0; row < rowCount; row++) {
                if (isRest(row)) {
                    if (found == i) {
                        return digits();
                    }
                    found++;
                }
            }
            return NONE;
        }

        int fullestOfFirstRest() {
            findRest(0);
            int fullest = crowd[0] > crowd[1] ? crowd[0] : crowd[1];
            return crowd[2] > fullest ? crowd[2] : fullest;
        }

        private boolean isRest(int row) {
            spell(row);
            for (int i = 0; i < players; i++) {
                int own = choice[i];
                int has = worth[own] - 2 * (crowd[own] - 1);
                for (int third = 0; third < SORTS; third++) {
                    if (third != own && worth[third] - 2 * crowd[third] > has) {
                        return false;
                    }
                }
            }
            return true;
        }

        private void spell(int row) {
            for (int third = 0; third < SORTS; third++) {
                crowd[third] = 0;
            }
            int rest = row;
            for (int i = players - 1; i >= 0; i--) {
                choice[i] = rest % SORTS;
                crowd[choice[i]]++;
                rest /= SORTS;
            }
        }

        private int digits() {
            int number = 0;
            for (int i = 0; i < players; i++) {
                number = number * 10 + choice[i];
            }
            return number;
        }
    }

    /** PICTURES and the BOOK of RACES. */
    private static final class Records {
        static final int MOST_RACES = 40;
        private static final int MOST_PICTURES = 12;
        private static final int FURTHEST_SEEN = 20;

        private final int[] seen = new int[MOST_BOATS];
        private final int[] least = new int[MOST_BOATS];
        private final int[] most = new int[MOST_BOATS];
        final int[] points = new int[MOST_BOATS];
        int pictures;
        int races;

        void forget() {
            pictures = 0;
            races = 0;
            for (int i = 0; i < MOST_BOATS; i++) {
                seen[i] = 0;
                least[i] = -FURTHEST_SEEN;
                most[i] = FURTHEST_SEEN;
                points[i] = 0;
            }
        }

        boolean canSee(int from, int to) {
            return pictures < MOST_PICTURES && from >= -FURTHEST_SEEN && to <= FURTHEST_SEEN && from <= to;
        }

        int addPicture(int boat, int from, int to) {
            seen[boat]++;
            least[boat] = from > least[boat] ? from : least[boat];
            most[boat] = to < most[boat] ? to : most[boat];
            pictures++;
            return pictures;
        }

        /** 0 COULD, 1 SURE, 2 FALSE. */
        boolean isSeen(int boat, int what) {
            boolean together = least[boat] <= most[boat];
            switch (what) {
                case 0: return seen[boat] > 0 && together && least[boat] < 0;
                case 1: return seen[boat] > 0 && together && most[boat] < 0;
                default: return !together;
            }
        }

        int addRace(Course course, Fleet fleet) {
            for (int i = 0; i < fleet.count; i++) {
                points[i] += course.placeOf(fleet, i);
            }
            races++;
            return races;
        }
    }
}
