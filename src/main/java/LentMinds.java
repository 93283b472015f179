import java.util.Arrays;
import java.util.NoSuchElementException;

/** A house of up to nine bodies that share one mind, minute by minute. */
public final class LentMinds {
    public static final int NONE = -1;

    private static final int MOST_BYTES = 500;
    private static final int BYTES_FED = 20;
    private static final int MOST_BODIES = 9;
    private static final int MOST_CLAUSES = 40;
    private static final int MOST_PASSINGS = 30;
    private static final int MOST_SPOTS = 6;
    private static final int MOST_IMAGES = 3;
    private static final int MOST_MINUTES = 480;
    private static final int LAST_PLACE = 15;
    private static final int MOST_HOLD = 60;
    private static final int MOST_STAY = 60;
    private static final int MOST_TAUGHT = 239;
    private static final int OF_TWENTY = 20;
    private static final int THOUSAND = 1000;
    private static final int NEVER = 999;
    private static final int LAST_STEP = 999;

    private static final int FEW_BODIES = 4;
    private static final int FEW_HOLD = 8;
    private static final int BACK_BODIES = 3;
    private static final int BACK_MINUTES = 40;
    private static final int TWO_BODIES = 6;

    private static final int ROUND = 0;
    private static final int DUE = 1;
    private static final int HARM = 2;
    private static final int NEAR = 3;
    private static final int SOON = 4;
    private static final int CALL = 5;

    private static final int CANNOT_STAND = 1;
    private static final int NONE_SUCH = 2;
    private static final int TOO_MANY = 3;
    private static final int NOBODY = 4;

    /** What each number of each clause may be, the clauses in the order of Word. */
    private static final int[] LEAST = {
        0, 0, 1, 1, 0, 0, 0, 0, 0, 0, 0, 0, 1, 0, 1, 0, 0, 1, 30};
    private static final int[] MOST = {
        15, 15, 60, 240, 99, 99, 8, 8, 8, 479, 479, 8, 60, 8, 20, 20, 9, 30, 480};
    private static final Word[] WORDS = Word.values();

    private final byte[] tape = new byte[MOST_BYTES];
    private int taped = 0;
    private int faultPlace = NONE;
    private final Reader reader = new Reader();
    private House house = new House();
    private House spare = new House();
    private final Moment moment = new Moment();
    private final Plan plan = new Plan();
    private final Moment[] momentImages = new Moment[MOST_IMAGES];
    private final Plan[] planImages = new Plan[MOST_IMAGES];
    private int imaged = 0;
    private final Trial trial = new Trial();
    private final Judge judged = new Judge();
    private final Watch watch = new Watch();
    private final Few few = new Few();
    private final Keeper keeper = new Keeper(few);
    private final Backlog backlog = new Backlog(few);

    public LentMinds() {
        for (int i = 0; i < MOST_IMAGES; i++) {
            momentImages[i] = new Moment();
            planImages[i] = new Plan();
        }
    }

    // ---- the house ----

    public int feed(int a, int b, int c, int d, int e) {
        if (taped + BYTES_FED > MOST_BYTES) {
            return NONE;
        }
        tapeNumber(a);
        tapeNumber(b);
        tapeNumber(c);
        tapeNumber(d);
        tapeNumber(e);
        return taped;
    }

    private void tapeNumber(int number) {
        for (int shift = 24; shift >= 0 && taped < MOST_BYTES; shift -= 8) {
            tape[taped] = (byte) (number >>> shift);
            taped++;
        }
    }

    public int house(int n) throws IllegalArgumentException {
        if (n < 0 || n > taped) {
            throw new IllegalArgumentException("not so many bytes on the tape");
        }
        int fault = reader.read(tape, n, spare);
        taped = 0;
        faultPlace = reader.place;
        if (fault != 0) {
            return fault - 10;
        }
        House before = house;
        house = spare;
        spare = before;
        moment.begin();
        plan.begin();
        imaged = 0;
        return house.bodies;
    }

    public int fault() {
        return faultPlace;
    }

    public int told(int what) throws IllegalArgumentException {
        switch (what) {
            case 0: return house.bodies;
            case 1: return house.breath;
            case 2: return house.stride;
            case 3: return house.day;
            case 4: return house.joints;
            default: throw new IllegalArgumentException("what is 0 to 4");
        }
    }

    public int body(int body, int what) throws NoSuchElementException, IllegalArgumentException {
        needBody(body);
        switch (what) {
            case 0: return house.x[body];
            case 1: return house.y[body];
            case 2: return house.holds[body];
            case 3: return house.needs[body];
            case 4: return house.harm[body];
            case 5: return house.worth[body];
            case 6: return house.habit[body];
            case 7: return house.joint[body];
            default: throw new IllegalArgumentException("what is 0 to 7");
        }
    }

    private void needBody(int body) {
        if (!house.has(body)) {
            throw new NoSuchElementException("no such body");
        }
    }

    private static void need(boolean fits) {
        if (!fits) {
            throw new IllegalArgumentException("a number is none such");
        }
    }

    private static boolean within(int number, int least, int most) {
        return number >= least && number <= most;
    }

    // ---- the minutes ----

    public int now(int body, int what) throws NoSuchElementException, IllegalArgumentException {
        needBody(body);
        switch (what) {
            case 0: return moment.without[body];
            case 1: return moment.did[body];
            case 2: return moment.hold(house, body);
            case 3: return moment.slack(house, body);
            case 4: return asNumber(moment.isDone(body));
            case 5: return asNumber(moment.isAbed(body));
            case 6: return asNumber(moment.isAsleep(house, body));
            case 7: return asNumber(moment.hasDrifted(house, body));
            default: throw new IllegalArgumentException("what is 0 to 7");
        }
    }

    private static int asNumber(boolean is) {
        return is ? 1 : 0;
    }

    public int costs(int body, int other) throws NoSuchElementException {
        needBody(body);
        needBody(other);
        return house.cost(body, other);
    }

    public int pass(int body) throws NoSuchElementException {
        needBody(body);
        if (moment.way > 0) {
            return -1;
        }
        if (moment.mind == body) {
            return -2;
        }
        moment.send(house, body);
        return moment.way;
    }

    public int mind() {
        return house.bodies == 0 ? NONE : 100 * moment.way + moment.mind;
    }

    public boolean bed(int body, boolean is) throws NoSuchElementException {
        needBody(body);
        boolean was = moment.isAbed(body);
        int bit = 1 << body;
        moment.abed = is ? moment.abed | bit : moment.abed & ~bit;
        moment.without[body] = 0;
        return was;
    }

    public int minutes(int n) throws IllegalArgumentException, IllegalStateException {
        need(within(n, 1, MOST_MINUTES));
        if (moment.now >= house.day) {
            throw new IllegalStateException("no house, or the day is over");
        }
        int before = moment.harm;
        for (int i = 0; i < n && moment.now < house.day; i++) {
            moment.live(house);
        }
        return moment.harm - before;
    }

    public int day(int what) throws IllegalArgumentException {
        switch (what) {
            case 0: return moment.harm;
            case 1: return moment.worth;
            case 2: return Integer.bitCount(moment.done);
            case 3: return moment.passes;
            default: throw new IllegalArgumentException("what is 0 to 3");
        }
    }

    // ---- told passings ----

    public int passing(int minute, int body) throws NoSuchElementException, IllegalArgumentException {
        needBody(body);
        need(within(minute, 0, MOST_MINUTES - 1));
        return plan.addPassing(minute, body) ? plan.passings : -1;
    }

    public int clear() {
        int gone = plan.passings;
        plan.passings = 0;
        return gone;
    }

    public int judge(int what) throws IllegalArgumentException {
        need(within(what, 0, 3));
        judged.follow(house, moment, plan);
        switch (what) {
            case 0: return judged.moment.harm;
            case 1: return judged.moment.worth;
            case 2: return judged.late;
            default: return judged.lost;
        }
    }

    // ---- rules ----

    public int run(int rule, int q, int what, int seed) throws IllegalArgumentException {
        need(within(rule, ROUND, CALL) && within(q, 1, MOST_STAY) && within(what, 0, 3));
        trial.begin(moment);
        trial.follow(house, rule, q, seed);
        switch (what) {
            case 0: return trial.moment.harm;
            case 1: return trial.moment.worth;
            case 2: return Integer.bitCount(trial.moment.done);
            default: return trial.moment.passes;
        }
    }

    private int harmOfRun(int rule, int q) {
        trial.begin(moment);
        trial.follow(house, rule, q, 0);
        return trial.moment.harm;
    }

    public int best(int q) throws IllegalArgumentException {
        need(within(q, 1, MOST_STAY));
        if (house.bodies == 0) {
            return NONE;
        }
        int found = ROUND;
        int leastHarm = 0;
        int mostWorth = 0;
        for (int rule = ROUND; rule <= SOON; rule++) {
            int harm = harmOfRun(rule, q);
            int worth = trial.moment.worth;
            if (rule == ROUND || harm < leastHarm || harm == leastHarm && worth > mostWorth) {
                found = rule;
                leastHarm = harm;
                mostWorth = worth;
            }
        }
        return found;
    }

    public int often(int rule) throws IllegalArgumentException {
        need(within(rule, ROUND, SOON));
        int found = 1;
        int leastHarm = harmOfRun(rule, 1);
        for (int q = 2; q <= MOST_STAY; q++) {
            int harm = harmOfRun(rule, q);
            if (harm < leastHarm) {
                found = q;
                leastHarm = harm;
            }
        }
        return found;
    }

    public int taught(int body, int many, int rule, int q) throws NoSuchElementException, IllegalArgumentException {
        needBody(body);
        needLesson(many, rule, q);
        need(canLearn(body, many));
        return harmOfRun(rule, q) - harmIfTaught(body, many, rule, q);
    }

    public int pays(int many, int rule, int q) throws IllegalArgumentException {
        needLesson(many, rule, q);
        int found = NONE;
        int leastHarm = 0;
        for (int b = 0; b < house.bodies; b++) {
            if (canLearn(b, many)) {
                int harm = harmIfTaught(b, many, rule, q);
                if (found == NONE || harm < leastHarm) {
                    found = b;
                    leastHarm = harm;
                }
            }
        }
        return found;
    }

    private static void needLesson(int many, int rule, int q) {
        need(within(many, 1, MOST_TAUGHT) && within(rule, ROUND, SOON) && within(q, 1, MOST_STAY));
    }

    private boolean canLearn(int body, int many) {
        return !moment.isDone(body) && moment.did[body] + many < house.needs[body];
    }

    private int harmIfTaught(int body, int many, int rule, int q) {
        trial.begin(moment);
        trial.moment.did[body] += many;
        trial.follow(house, rule, q, 0);
        return trial.moment.harm;
    }

    // ---- cries ----

    public int trust(int body, int d) throws NoSuchElementException, IllegalArgumentException {
        needBody(body);
        need(within(d, 1, OF_TWENTY));
        return trustIn(body, d);
    }

    private int trustIn(int body, int d) {
        int rightly = d * house.criesDrifted[body];
        int all = rightly + (OF_TWENTY - d) * house.criesElse[body];
        return all <= 0 ? NONE : THOUSAND * rightly / all;
    }

    public boolean answer(int body, int d, int t, int cost) throws NoSuchElementException, IllegalArgumentException {
        needBody(body);
        need(within(d, 1, OF_TWENTY) && within(t, 1, 60) && within(cost, 0, 9999));
        int trusted = trustIn(body, d);
        return trusted != NONE && trusted * house.harm[body] * t > THOUSAND * cost;
    }

    // ---- few, held for ever ----

    public boolean can(int bits) throws IllegalArgumentException {
        needBodies(bits, 1, FEW_BODIES);
        return canHold(bits);
    }

    public int step(int bits, int k) throws IllegalArgumentException {
        needBodies(bits, 1, FEW_BODIES);
        need(within(k, 0, LAST_STEP));
        return canHold(bits) ? keeper.bodyOfStep(k) : NONE;
    }

    public int round(int bits, int what) throws IllegalArgumentException {
        needBodies(bits, 1, FEW_BODIES);
        need(within(what, 0, 2));
        if (!canHold(bits)) {
            return NONE;
        }
        switch (what) {
            case 0: return keeper.first;
            case 1: return keeper.depth - keeper.first;
            default: return keeper.minutesOfRound();
        }
    }

    public int density(int bits) throws IllegalArgumentException {
        needBodies(bits, 1, FEW_BODIES);
        few.gather(house, moment, bits);
        int all = 0;
        for (int i = 0; i < few.size; i++) {
            all += THOUSAND / (Math.max(few.hold[i], 0) + 1);
        }
        return all;
    }

    private void needBodies(int bits, int least, int most) {
        need(bits > 0 && bits < 1 << house.bodies && within(Integer.bitCount(bits), least, most));
    }

    private boolean canHold(int bits) {
        few.gather(house, moment, bits);
        return keeper.hold();
    }

    public int two(int bits) throws IllegalArgumentException {
        needBodies(bits, 2, TWO_BODIES);
        int first = bits & -bits;
        for (int part = first; part < bits; part++) {
            if ((part & ~bits) == 0 && (part & first) != 0 && canHoldApart(part, bits & ~part)) {
                return part;
            }
        }
        return NONE;
    }

    private boolean canHoldApart(int part, int rest) {
        return Integer.bitCount(part) <= FEW_BODIES && Integer.bitCount(rest) <= FEW_BODIES
            && canHold(part) && canHold(rest);
    }

    public int alike(int h, int c) throws IllegalArgumentException {
        need(within(h, 1, MOST_HOLD) && within(c, 0, 30));
        return Math.max(1, (h + 1) / (c + 1));
    }

    public int back(int bits, int t, int what) throws IllegalArgumentException {
        needBodies(bits, 1, BACK_BODIES);
        need(within(t, 1, BACK_MINUTES) && within(what, 0, 1));
        few.gather(house, moment, bits);
        backlog.reckon(t);
        return what == 0 ? backlog.leastHarm() : backlog.firstStep();
    }

    public int safe() {
        int all = 0;
        for (int b = 0; b < house.bodies; b++) {
            if (!moment.isDone(b) && !moment.isAbed(b)) {
                all |= 1 << b;
            }
        }
        for (int size = FEW_BODIES; size > 0; size--) {
            for (int bits = 1; bits <= all; bits++) {
                if ((bits & ~all) == 0 && Integer.bitCount(bits) == size && canHold(bits)) {
                    return bits;
                }
            }
        }
        return 0;
    }

    // ---- how long ----

    public int stay(int body) throws NoSuchElementException {
        needBody(body);
        watch.stayWith(house, moment, body);
        return watch.lasts(0);
    }

    public int beds(int body, int many, int what) throws NoSuchElementException, IllegalArgumentException {
        needBody(body);
        need(within(many, 0, MOST_BODIES - 1) && within(what, 0, 1));
        int all = (1 << house.bodies) - 1 & ~moment.abed & ~(1 << body);
        if (Integer.bitCount(all) < many) {
            return NONE;
        }
        watch.stayWith(house, moment, body);
        int found = 0;
        int longest = NONE;
        for (int bits = 0; bits <= all; bits++) {
            if ((bits & ~all) == 0 && Integer.bitCount(bits) == many && watch.lasts(bits) > longest) {
                found = bits;
                longest = watch.lasts(bits);
            }
        }
        return what == 0 ? found : longest;
    }

    public int gone(int what) throws IllegalArgumentException {
        need(within(what, 0, 1));
        watch.leaveAlone(house, moment);
        return what == 0 ? watch.lasts(0) : watch.firstToDrift();
    }

    public int over() {
        int needed = 0;
        for (int b = 0; b < house.bodies; b++) {
            int other = house.joint[b];
            int mine = neededStill(b);
            int theirs = neededStill(other);
            if (mine > theirs || mine == theirs && (other == NONE || b < other)) {
                needed += mine;
            }
        }
        return Math.max(0, needed - (house.day - moment.now));
    }

    private int neededStill(int body) {
        if (!house.has(body) || moment.isDone(body) || moment.isAbed(body)) {
            return 0;
        }
        return house.needs[body] - moment.did[body];
    }

    // ---- spots ----

    public int spot(int x, int y) throws IllegalArgumentException {
        need(within(x, 0, LAST_PLACE) && within(y, 0, LAST_PLACE));
        return plan.addSpot(x, y) ? plan.spots : -1;
    }

    public int placed(int what) throws IllegalArgumentException {
        need(within(what, 0, 1));
        if (plan.spots == 0 || plan.spots > house.bodies) {
            return NONE;
        }
        return plan.placing(house, what == 1);
    }

    // ---- images ----

    public int image() {
        if (imaged >= MOST_IMAGES) {
            return -1;
        }
        momentImages[imaged].copy(moment);
        planImages[imaged].copy(plan);
        imaged++;
        return imaged;
    }

    public int restore() {
        if (imaged <= 0 || imaged > MOST_IMAGES) {
            return -1;
        }
        imaged--;
        moment.copy(momentImages[imaged]);
        plan.copy(planImages[imaged]);
        return imaged;
    }

    public int count(int what) {
        switch (what) {
            case 0: return moment.now;
            case 1: return plan.passings;
            case 2: return plan.spots;
            case 3: return Integer.bitCount(moment.abed);
            case 4: return imaged;
            case 5: return taped;
            default: return NONE;
        }
    }

    /** What was told of the bodies and of the day; without bodies there is no house. */
    private static final class House {
        final int[] x = new int[MOST_BODIES];
        final int[] y = new int[MOST_BODIES];
        final int[] holds = new int[MOST_BODIES];
        final int[] needs = new int[MOST_BODIES];
        final int[] harm = new int[MOST_BODIES];
        final int[] worth = new int[MOST_BODIES];
        final int[] joint = new int[MOST_BODIES];
        final int[] habit = new int[MOST_BODIES];
        final int[] sleepsFrom = new int[MOST_BODIES];
        final int[] sleepsTo = new int[MOST_BODIES];
        final int[] criesDrifted = new int[MOST_BODIES];
        final int[] criesElse = new int[MOST_BODIES];
        int bodies = 0;
        int joints = 0;
        int breath = 0;
        int stride = 0;
        int day = 0;

        void begin() {
            bodies = 0;
            joints = 0;
            breath = 1;
            stride = 10;
            day = MOST_MINUTES;
        }

        boolean has(int body) {
            return body >= 0 && body < bodies && body < MOST_BODIES;
        }

        void addBody(int[] numbers) {
            if (bodies >= MOST_BODIES || numbers.length < 6) {
                return;
            }
            int b = bodies;
            x[b] = numbers[0];
            y[b] = numbers[1];
            holds[b] = numbers[2];
            needs[b] = numbers[3];
            harm[b] = numbers[4];
            worth[b] = numbers[5];
            joint[b] = NONE;
            habit[b] = 0;
            sleepsFrom[b] = 0;
            sleepsTo[b] = NONE;
            criesDrifted[b] = 0;
            criesElse[b] = 0;
            bodies++;
        }

        void addJoint(int one, int other) {
            if (has(one) && has(other)) {
                joint[one] = other;
                joint[other] = one;
                joints++;
            }
        }

        int cost(int from, int to) {
            if (from == to || !has(from) || !has(to)) {
                return 0;
            }
            return costOfWay(x[from] - x[to], y[from] - y[to]);
        }

        int costOfWay(int across, int along) {
            int far = Math.abs(across) + Math.abs(along);
            return stride < 1 ? breath : breath + far / stride;
        }
    }

    /** The words with which clauses begin: how many numbers follow, and where LEAST and MOST tell of them. */
    private enum Word {
        BODY("body", 6, 0),
        JOINT("joint", 2, 6),
        SLEEP("sleep", 3, 8),
        HABIT("habit", 2, 11),
        CRIES("cries", 3, 13),
        BREATH("breath", 1, 16),
        STRIDE("stride", 1, 17),
        DAY("day", 1, 18);

        final String spelling;
        final int numbers;
        final int limits;

        Word(String spelling, int numbers, int limits) {
            this.spelling = spelling;
            this.numbers = numbers;
            this.limits = limits;
        }
    }

    /** Reads a text into a house, up to its first fault. */
    private static final class Reader {
        private static final int TOO_LARGE = 100000;
        private static final int MOST_NUMBERS = 6;

        private final int[] numbers = new int[MOST_NUMBERS];
        private byte[] text = new byte[0];
        private int length = 0;
        private int at = 0;
        private int fault = 0;
        int place = NONE;

        /** The fault's number, 0 without; its place is kept. */
        int read(byte[] bytes, int n, House into) {
            text = bytes;
            length = Math.min(n, bytes.length);
            at = 0;
            fault = 0;
            place = NONE;
            into.begin();
            boolean goesOn = true;
            // the clause behind the last that is allowed is always a fault
            for (int earlier = 0; earlier <= MOST_CLAUSES && goesOn; earlier++) {
                skipBlanks();
                goesOn = at < length && readClause(into, earlier);
            }
            if (fault == 0 && into.bodies == 0) {
                refuse(NOBODY, length);
            }
            return fault;
        }

        private boolean refuse(int number, int where) {
            fault = number;
            place = where;
            return false;
        }

        private void skipBlanks() {
            while (at < length && text[at] == ' ') {
                at++;
            }
        }

        private boolean readClause(House into, int earlier) {
            int start = at;
            Word word = readWord();
            if (word == null) {
                return refuse(CANNOT_STAND, start);
            }
            if (earlier >= MOST_CLAUSES || word == Word.BODY && into.bodies >= MOST_BODIES) {
                return refuse(TOO_MANY, start);
            }
            for (int i = 0; i < word.numbers && i < MOST_NUMBERS; i++) {
                if (!readNumber(into, word, i)) {
                    return false;
                }
            }
            skipBlanks();
            if (at >= length || text[at] != ';') {
                return refuse(CANNOT_STAND, at);
            }
            at++;
            keep(into, word);
            return true;
        }

        private Word readWord() {
            int start = at;
            while (at < length && text[at] >= 'a' && text[at] <= 'z') {
                at++;
            }
            for (int i = 0; i < WORDS.length; i++) {
                if (isSpelled(WORDS[i].spelling, start)) {
                    return WORDS[i];
                }
            }
            return null;
        }

        private boolean isSpelled(String spelling, int start) {
            if (start < 0 || at > length || at - start != spelling.length()) {
                return false;
            }
            for (int i = 0; i < spelling.length(); i++) {
                if (text[start + i] != spelling.charAt(i)) {
                    return false;
                }
            }
            return true;
        }

        private boolean readNumber(House into, Word word, int index) {
            skipBlanks();
            int start = at;
            int value = 0;
            while (at < length && text[at] >= '0' && text[at] <= '9') {
                value = Math.min(value * 10 + (text[at] - '0'), TOO_LARGE);
                at++;
            }
            if (at == start) {
                return refuse(CANNOT_STAND, start);
            }
            numbers[index] = value;
            return fits(into, word, index) || refuse(NONE_SUCH, start);
        }

        private boolean fits(House into, Word word, int index) {
            int value = numbers[index];
            int limit = word.limits + index;
            if (limit >= LEAST.length || limit >= MOST.length
                || value < LEAST[limit] || value > MOST[limit]) {
                return false;
            }
            if (word == Word.JOINT) {
                return into.has(value) && into.joint[value] == NONE && (index == 0 || value != numbers[0]);
            }
            if (word == Word.SLEEP && index == 2) {
                return value >= numbers[1];
            }
            boolean namesBody = word == Word.SLEEP || word == Word.HABIT || word == Word.CRIES;
            return !namesBody || index > 0 || into.has(value);
        }

        private void keep(House into, Word word) {
            int first = numbers[0];
            if (word == Word.BODY) {
                into.addBody(numbers);
            } else if (word == Word.JOINT) {
                into.addJoint(first, numbers[1]);
            } else if (word == Word.BREATH) {
                into.breath = first;
            } else if (word == Word.STRIDE) {
                into.stride = first;
            } else if (word == Word.DAY) {
                into.day = first;
            } else if (into.has(first)) {
                keepOfBody(into, word, first);
            }
        }

        private void keepOfBody(House into, Word word, int body) {
            if (word == Word.SLEEP) {
                into.sleepsFrom[body] = numbers[1];
                into.sleepsTo[body] = numbers[2];
            } else if (word == Word.HABIT) {
                into.habit[body] = numbers[1];
            } else {
                into.criesDrifted[body] = numbers[1];
                into.criesElse[body] = numbers[2];
            }
        }
    }

    /** How all stands in one minute of the day; done and abed are bits of bodies. */
    private static final class Moment {
        final int[] without = new int[MOST_BODIES];
        final int[] did = new int[MOST_BODIES];
        int now = 0;
        int mind = 0;
        int way = 0;
        int done = 0;
        int abed = 0;
        int harm = 0;
        int worth = 0;
        int passes = 0;

        void begin() {
            Arrays.fill(without, 0);
            Arrays.fill(did, 0);
            now = 0;
            mind = 0;
            way = 0;
            done = 0;
            abed = 0;
            forget();
        }

        void forget() {
            harm = 0;
            worth = 0;
            passes = 0;
        }

        void copy(Moment other) {
            System.arraycopy(other.without, 0, without, 0, MOST_BODIES);
            System.arraycopy(other.did, 0, did, 0, MOST_BODIES);
            now = other.now;
            mind = other.mind;
            way = other.way;
            done = other.done;
            abed = other.abed;
            harm = other.harm;
            worth = other.worth;
            passes = other.passes;
        }

        boolean isDone(int body) {
            return (done >> body & 1) != 0;
        }

        boolean isAbed(int body) {
            return (abed >> body & 1) != 0;
        }

        boolean isAsleep(House house, int body) {
            return body >= 0 && body < MOST_BODIES
                && now >= house.sleepsFrom[body] && now <= house.sleepsTo[body];
        }

        /** Awake, not done, not in bed: one that a minute changes. */
        boolean isUp(House house, int body) {
            return ((done | abed) >> body & 1) == 0 && !isAsleep(house, body);
        }

        int hold(House house, int body) {
            if (body < 0 || body >= MOST_BODIES) {
                return 0;
            }
            int habit = house.habit[body];
            if (habit < 1) {
                return house.holds[body];
            }
            return Math.min(house.holds[body] + did[body] / habit, MOST_HOLD);
        }

        int slack(House house, int body) {
            return body < 0 || body >= MOST_BODIES ? 0 : hold(house, body) - without[body];
        }

        boolean hasDrifted(House house, int body) {
            return slack(house, body) < 0 && !isDone(body) && !isAbed(body);
        }

        void send(House house, int body) {
            way = house.cost(mind, body);
            mind = body;
            passes++;
        }

        /** One minute: the bits of those who have drifted in it. */
        int live(House house) {
            int with = way == 0 ? mind : NONE;
            int joint = house.has(with) ? house.joint[with] : NONE;
            int drifted = 0;
            for (int b = 0; b < house.bodies && b < MOST_BODIES; b++) {
                if (isUp(house, b)) {
                    if (b == with || b == joint) {
                        work(house, b);
                    } else if (lacks(house, b)) {
                        drifted |= 1 << b;
                    }
                }
            }
            if (way > 0) {
                way--;
            }
            now++;
            return drifted;
        }

        private void work(House house, int body) {
            without[body] = 0;
            did[body]++;
            if (did[body] == house.needs[body]) {
                done |= 1 << body;
                worth += house.worth[body];
            }
        }

        private boolean lacks(House house, int body) {
            without[body]++;
            if (without[body] <= hold(house, body)) {
                return false;
            }
            harm += house.harm[body];
            return true;
        }
    }

    /** What was told beside the house: passings and spots. */
    private static final class Plan {
        final int[] minute = new int[MOST_PASSINGS];
        final int[] body = new int[MOST_PASSINGS];
        int passings = 0;
        final int[] spotX = new int[MOST_SPOTS];
        final int[] spotY = new int[MOST_SPOTS];
        int spots = 0;
        private final int[] order = new int[MOST_SPOTS];

        void begin() {
            passings = 0;
            spots = 0;
        }

        void copy(Plan other) {
            System.arraycopy(other.minute, 0, minute, 0, MOST_PASSINGS);
            System.arraycopy(other.body, 0, body, 0, MOST_PASSINGS);
            passings = other.passings;
            System.arraycopy(other.spotX, 0, spotX, 0, MOST_SPOTS);
            System.arraycopy(other.spotY, 0, spotY, 0, MOST_SPOTS);
            spots = other.spots;
        }

        boolean addPassing(int when, int who) {
            if (passings >= MOST_PASSINGS) {
                return false;
            }
            minute[passings] = when;
            body[passings] = who;
            passings++;
            return true;
        }

        boolean addSpot(int x, int y) {
            if (spots >= MOST_SPOTS) {
                return false;
            }
            spotX[spots] = x;
            spotY[spots] = y;
            spots++;
            return true;
        }

        /** The least cost of a round over all spots, or the first order of spots that has it. */
        int placing(House house, boolean asOrder) {
            for (int i = 0; i < MOST_SPOTS; i++) {
                order[i] = i;
            }
            int digits = orderAsDigits();
            int least = costOfOrder(house);
            // no more than 6! orders
            for (int more = 720; more > 0 && nextOrder(); more--) {
                int cost = costOfOrder(house);
                if (cost < least) {
                    least = cost;
                    digits = orderAsDigits();
                }
            }
            return asOrder ? digits : least;
        }

        private int orderAsDigits() {
            int digits = 0;
            for (int i = 0; i < spots; i++) {
                digits = digits * MOST_SPOTS + order[i];
            }
            return digits;
        }

        private int costOfOrder(House house) {
            int all = 0;
            for (int i = 0; i < spots && spots > 1; i++) {
                int from = order[i];
                int to = order[i + 1 < spots ? i + 1 : 0];
                all += house.costOfWay(spotX[from] - spotX[to], spotY[from] - spotY[to]);
            }
            return all;
        }

        private boolean nextOrder() {
            int i = spots - 2;
            while (i >= 0 && order[i] > order[i + 1]) {
                i--;
            }
            if (i < 0) {
                return false;
            }
            int j = spots - 1;
            while (j > i && order[j] < order[i]) {
                j--;
            }
            swap(i, j);
            for (int low = i + 1, high = spots - 1; low < high; low++, high--) {
                swap(low, high);
            }
            return true;
        }

        private void swap(int i, int j) {
            int kept = order[i];
            order[i] = order[j];
            order[j] = kept;
        }
    }

    /** Goes on by told passings to the end of the day. */
    private static final class Judge {
        final Moment moment = new Moment();
        int late = NONE;
        int lost = 0;

        void follow(House house, Moment from, Plan plan) {
            moment.copy(from);
            moment.forget();
            late = NONE;
            lost = 0;
            for (int i = 0; i < plan.passings; i++) {
                if (plan.minute[i] < moment.now) {
                    lost++;
                }
            }
            for (int i = moment.now; i < house.day; i++) {
                passAsTold(house, plan);
                moment.live(house);
            }
        }

        private void passAsTold(House house, Plan plan) {
            for (int i = 0; i < plan.passings; i++) {
                if (plan.minute[i] == moment.now) {
                    passOnce(house, plan.body[i], i);
                }
            }
        }

        private void passOnce(House house, int body, int number) {
            if (moment.way > 0) {
                lost++;
            } else if (body != moment.mind) {
                if (late == NONE && moment.hasDrifted(house, body)) {
                    late = number;
                }
                moment.send(house, body);
            }
        }
    }

    /** Goes on by a rule to the end of the day. */
    private static final class Trial {
        final Moment moment = new Moment();
        private int seed = 0;
        private int crying = 0;

        void begin(Moment from) {
            moment.copy(from);
            moment.forget();
        }

        void follow(House house, int rule, int q, int firstSeed) {
            seed = firstSeed;
            int stayed = 0;
            for (int i = moment.now; i < house.day; i++) {
                if (rule == CALL) {
                    drawCries(house);
                }
                if (moment.way == 0 && (stayed >= q || !moment.isUp(house, moment.mind))) {
                    int next = choose(house, rule);
                    if (next != NONE) {
                        moment.send(house, next);
                        stayed = 0;
                    }
                }
                if (moment.way == 0) {
                    stayed++;
                }
                moment.live(house);
            }
        }

        private void drawCries(House house) {
            crying = 0;
            for (int b = 0; b < house.bodies; b++) {
                if (moment.isUp(house, b)) {
                    seed = seed * 1103515245 + 12345;
                    int drawn = (seed >>> 16 & 0x7fff) % OF_TWENTY;
                    int below = moment.hasDrifted(house, b)
                        ? house.criesDrifted[b] : house.criesElse[b];
                    if (drawn < below) {
                        crying |= 1 << b;
                    }
                }
            }
        }

        /** The body to which the rule passes the mind; ROUND looks from the next on, all others from 0. */
        private int choose(House house, int rule) {
            int found = NONE;
            int bodies = house.bodies;
            int first = rule == ROUND ? moment.mind + 1 : 0;
            for (int i = 0; i < bodies; i++) {
                int b = first + i < bodies ? first + i : first + i - bodies;
                boolean fits = b != moment.mind && moment.isUp(house, b)
                    && (rule != CALL || (crying >> b & 1) != 0);
                if (fits && (found == NONE || isBetter(house, rule, b, found))) {
                    found = b;
                }
            }
            return found;
        }

        private boolean isBetter(House house, int rule, int body, int than) {
            switch (rule) {
                case DUE:
                    return moment.slack(house, body) < moment.slack(house, than);
                case HARM:
                    int bodyTime = Math.max(moment.slack(house, body) + 1, 1);
                    int thanTime = Math.max(moment.slack(house, than) + 1, 1);
                    return house.harm[body] * thanTime > house.harm[than] * bodyTime;
                case NEAR:
                    return house.cost(moment.mind, body) < house.cost(moment.mind, than);
                case SOON:
                    return house.needs[body] - moment.did[body] < house.needs[than] - moment.did[than];
                default:
                    return false;
            }
        }
    }

    /** Looks on from now to the end of the day: in which minute each body drifts first. */
    private static final class Watch {
        private final Moment moment = new Moment();
        private final int[] drifts = new int[MOST_BODIES];
        private int bodies = 0;
        private int spared = 0;
        private int onTheWay = 0;

        void stayWith(House house, Moment from, int body) {
            moment.copy(from);
            moment.way += house.cost(moment.mind, body);
            moment.mind = body;
            spared = 1 << body;
            if (house.has(body) && house.joint[body] != NONE) {
                spared |= 1 << house.joint[body];
            }
            lookOn(house);
        }

        void leaveAlone(House house, Moment from) {
            moment.copy(from);
            moment.way = 0;
            moment.mind = NONE;
            spared = 0;
            lookOn(house);
        }

        private void lookOn(House house) {
            Arrays.fill(drifts, NONE);
            bodies = house.bodies;
            onTheWay = moment.way;
            int left = house.day - moment.now;
            for (int minute = 0; minute < left; minute++) {
                int drifted = moment.live(house);
                for (int b = 0; b < bodies && drifted != 0; b++) {
                    if ((drifted >> b & 1) != 0 && drifts[b] == NONE) {
                        drifts[b] = minute;
                    }
                }
            }
        }

        /** For how many minutes nobody drifts who counts, if so many more were in bed. */
        int lasts(int inBed) {
            int first = earliest(inBed | spared);
            return first == NONE ? NEVER : Math.max(0, drifts[first] - onTheWay);
        }

        int firstToDrift() {
            return earliest(0);
        }

        private int earliest(int but) {
            int first = NONE;
            for (int b = 0; b < bodies; b++) {
                boolean counts = (but >> b & 1) == 0 && drifts[b] != NONE;
                if (counts && (first == NONE || drifts[b] < drifts[first])) {
                    first = b;
                }
            }
            return first;
        }
    }

    /** A few bodies, by their place among themselves. */
    private static final class Few {
        final int[] who = new int[FEW_BODIES];
        final int[] hold = new int[FEW_BODIES];
        final int[] harm = new int[FEW_BODIES];
        final int[] cost = new int[FEW_BODIES * FEW_BODIES];
        int size = 0;

        void gather(House house, Moment moment, int bits) {
            size = 0;
            for (int b = 0; b < house.bodies && size < FEW_BODIES; b++) {
                if ((bits >> b & 1) != 0) {
                    who[size] = b;
                    hold[size] = Math.min(moment.hold(house, b), FEW_HOLD);
                    harm[size] = house.harm[b];
                    size++;
                }
            }
            for (int i = 0; i < size; i++) {
                for (int j = 0; j < size; j++) {
                    cost[i * FEW_BODIES + j] = house.cost(who[i], who[j]);
                }
            }
        }

        boolean has(int place) {
            return place >= 0 && place < size;
        }

        int costOf(int from, int to) {
            return !has(from) || !has(to) ? 0 : cost[from * FEW_BODIES + to];
        }
    }

    /**
     * Looks for steps without end, the first body first. Behind a step the body that the mind is
     * with has 0 without: a state is that body's place, and digits for the others.
     */
    private static final class Keeper {
        private static final int BASE = FEW_HOLD + 1;
        private static final int MOST_STATES = FEW_BODIES * BASE * BASE * BASE;
        private static final int DEAD = -1;

        private final Few few;
        /** Of each state 0 (new), DEAD, or 1 and its place on the path. */
        private final int[] mark = new int[MOST_STATES];
        private final int[] path = new int[MOST_STATES];
        private final int[] move = new int[MOST_STATES];
        private final int[] without = new int[FEW_BODIES];
        private int block = 1;
        int depth = 0;
        int first = 0;

        Keeper(Few few) {
            this.few = few;
        }

        /** Whether there are steps without end: then the path has them, and goes on from first. */
        boolean hold() {
            begin();
            // each state comes on the path once, and tries each body once
            for (int turns = MOST_STATES * (FEW_BODIES + 2); turns > 0 && depth > 0; turns--) {
                int to = move[depth - 1];
                if (!few.has(to)) {
                    giveUp();
                } else {
                    int next = stateBehind(path[depth - 1], to);
                    if (next < 0 || next >= MOST_STATES || mark[next] == DEAD) {
                        move[depth - 1]++;
                    } else if (mark[next] > 0) {
                        first = mark[next] - 1;
                        return true;
                    } else {
                        push(next);
                    }
                }
            }
            return false;
        }

        private void begin() {
            block = 1;
            for (int i = 1; i < few.size; i++) {
                block *= BASE;
            }
            Arrays.fill(mark, 0, Math.min(block * few.size, MOST_STATES), 0);
            depth = 0;
            first = 0;
            push(0);
        }

        private void push(int state) {
            if (depth < MOST_STATES && state < MOST_STATES) {
                path[depth] = state;
                move[depth] = 0;
                depth++;
                mark[state] = depth;
            }
        }

        /** The last state of the path leads nowhere: the one ahead of it tries its next body. */
        private void giveUp() {
            depth--;
            mark[path[depth]] = DEAD;
            if (depth > 0) {
                move[depth - 1]++;
            }
        }

        private int placeOfMind(int state) {
            return block < 1 ? 0 : state / block;
        }

        /** The state behind a step; NONE if one would have more than it holds. */
        private int stateBehind(int state, int to) {
            int mind = placeOfMind(state);
            int digits = state;
            for (int i = few.size - 1; i >= 0; i--) {
                without[i] = i == mind ? 0 : digits % BASE;
                digits = i == mind ? digits : digits / BASE;
            }
            int way = few.costOf(mind, to);
            int behind = to;
            for (int i = 0; i < few.size; i++) {
                int has = without[i] + way + (i == to ? 0 : 1);
                if (has > few.hold[i]) {
                    return NONE;
                }
                behind = i == to ? behind : behind * BASE + has;
            }
            return behind;
        }

        int bodyOfStep(int k) {
            int length = depth - first;
            if (length < 1 || k < 0) {
                return NONE;
            }
            int at = k < depth ? k : first + (k - first) % length;
            return few.has(move[at]) ? few.who[move[at]] : NONE;
        }

        int minutesOfRound() {
            int minutes = 0;
            for (int i = first; i < depth; i++) {
                minutes += few.costOf(placeOfMind(path[i]), move[i]) + 1;
            }
            return minutes;
        }
    }

    /**
     * The least harm of all steps in some minutes. A state is as the Keeper's, but for what is
     * above hold, which is all the same and counts as one more than hold.
     */
    private static final class Backlog {
        private static final int BASE = FEW_HOLD + 2;
        private static final int BLOCK = BASE * BASE;
        private static final int STATES = BACK_BODIES * BLOCK;
        private static final int NOT_REACHED = 1000000000;

        private final Few few;
        /** By minute and state: 4 times the least harm up to there, and the first step that leads to it. */
        private final int[] least = new int[BACK_MINUTES * STATES];
        private final int[] without = new int[FEW_BODIES];
        private int minutes = 0;
        private int found = NOT_REACHED;

        Backlog(Few few) {
            this.few = few;
        }

        void reckon(int t) {
            minutes = Math.min(t, BACK_MINUTES);
            found = NOT_REACHED;
            Arrays.fill(least, NOT_REACHED);
            least[0] = 0;
            for (int minute = 0; minute < minutes; minute++) {
                for (int state = 0; state < STATES; state++) {
                    int before = least[minute * STATES + state];
                    if (before != NOT_REACHED) {
                        takeApart(state);
                        goOn(minute, state / BLOCK, before);
                    }
                }
            }
        }

        private void takeApart(int state) {
            int mind = state / BLOCK;
            int digits = state;
            for (int i = few.size - 1; i >= 0; i--) {
                without[i] = i == mind ? 0 : digits % BASE;
                digits = i == mind ? digits : digits / BASE;
            }
        }

        private void goOn(int minute, int mind, int before) {
            for (int to = 0; to < few.size; to++) {
                int way = few.costOf(mind, to);
                int value = before + 4 * harmOfStep(to, way, minutes - minute) + (minute == 0 ? to : 0);
                int then = minute + way + 1;
                if (then >= minutes) {
                    found = Math.min(found, value);
                } else {
                    int index = then * STATES + stateBehind(to, way);
                    if (index < least.length) {
                        least[index] = Math.min(least[index], value);
                    }
                }
            }
        }

        private int harmOfStep(int to, int way, int left) {
            int harm = 0;
            for (int i = 0; i < few.size; i++) {
                int lacking = Math.min(i == to ? way : way + 1, left);
                int held = Math.max(few.hold[i] - without[i], 0);
                harm += few.harm[i] * Math.max(lacking - held, 0);
            }
            return harm;
        }

        private int stateBehind(int to, int way) {
            int digits = 0;
            for (int i = 0; i < few.size; i++) {
                if (i != to) {
                    digits = digits * BASE + Math.min(without[i] + way + 1, few.hold[i] + 1);
                }
            }
            return to * BLOCK + digits;
        }

        int leastHarm() {
            return found / 4;
        }

        int firstStep() {
            int place = found % 4;
            return few.has(place) ? few.who[place] : NONE;
        }
    }
}
