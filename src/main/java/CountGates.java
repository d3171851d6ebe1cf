import java.util.Arrays;

/**
 * Parks, gates through which one comes out as another many, laws and orders about them.
 * Words in capitals are those of the document, DOC.md.
 */
public final class CountGates {
    public static final int NONE = -1;

    private static final int BAD_NUMBER = -1;
    private static final int NO_SUCH = -2;
    private static final int CANNOT = -3;
    private static final int NO_ROOM = -5;
    private static final int BAD_TEXT = -6;
    private static final int REFUSALS = 7;

    private static final int PARKS = 6;
    private static final int GATES = 10;
    private static final int GOERS = 5;
    private static final int KINDS = 8;
    private static final int ARMS = 10;
    private static final int MANYS = 20;
    private static final int HURRIES = 4;
    private static final int SIGHTS = 6;
    private static final int LAWS = 6;
    private static final int IMAGES = 2;
    private static final int PLACES = PARKS * MANYS;
    private static final int MOST_TOLL = 9;
    private static final int MOST_PAID = 9999;
    private static final int UNDOABLE = 16;

    private static final int DAY = 0;
    private static final int BITES = 1;
    private static final int MOOD = 2;
    private static final int TERMS = 3;
    private static final int LAST_DAY = 999;

    private static final int TAPE = 400;
    private static final int CLAUSES = 12;
    private static final int PARTS = 50;
    private static final int BRACKETS = 8;
    private static final int MOST_TIMES = 20;
    private static final int MOST_NUMBER = 1000;
    private static final int MOST_SUM = 1_000_000_000;
    /** Further from 0 than any SUM may be. */
    private static final int BROKEN = -2_000_000_000;

    private static final long WHOLE = 1_000_000_000_000L;
    private static final int MOST_WAYS = 12;
    private static final int MOST_STEPS = 30;
    private static final int MOST_BITTEN = 20;
    private static final int MOST_TRIED = 99;
    private static final int NOTHING_TO_FIX = 100;
    private static final int MOST_SEED = 1_000_000;
    private static final int MOST_DAYS = 60;

    /** TOKENS, beside the single bytes, which are 0 to 255. */
    private static final int NUMBER = 256;
    private static final int END = 257;
    private static final int STRANGE = 258;
    /** Never a TOKEN: code that takes what a word stands for. */
    private static final int WORD = 259;
    private static final int TURNS = 260;
    private static final int PAYS = 261;
    private static final int BARS = 262;
    private static final int GO = 263;
    private static final int LATCH = 264;
    private static final int SET = 265;
    private static final int PASS = 266;
    private static final int IF = 267;
    private static final int BY = 268;
    private static final int AS = 269;
    private static final int TIMES = 270;
    private static final int OR = 271;
    private static final int AND = 272;
    private static final int NOT = 273;
    private static final int W_KIND = 274;
    private static final int W_ARM = 275;
    private static final int W_MANY = 276;
    private static final int W_DAY = 280;
    private static final int W_MOOD = 281;
    private static final int W_DONE = 282;
    private static final int W_LATEST = 283;
    private static final int W_WHOLE = 284;
    private static final int W_PARK = 285;
    /** In the order of the numbers above, from TURNS on, a blank behind each. */
    private static final String SPELLED =
            "turns pays bars go latch set pass if by as times or and not kind arm many hurry gate goer day mood done latest whole park ";

    /** What the words of a LAW stand for: a row in the order kind .. mood. */
    private static final int LAW_WORDS = 8;
    private static final int LAW_MANY = 2;
    /** What the words of ORDERS stand for: a row in which each GOER's and GATE's have places of their own. */
    private static final int ORDER_DAY = 0;
    private static final int ORDER_DONE = 1;
    private static final int ORDER_LATEST = 2;
    private static final int ORDER_WHOLE = 3;
    private static final int ORDER_MANY = 4;
    private static final int ORDER_PARK = ORDER_MANY + GOERS;
    private static final int ORDER_ARM = ORDER_PARK + GOERS;
    private static final int ORDER_WORDS = ORDER_ARM + GATES;

    private final State state = new State();
    private final State[] images = new State[IMAGES];
    private final boolean[] kept = new boolean[IMAGES];
    private final Tape tape = new Tape();
    private final Asker asker = new Asker();
    private final Reader reader = new Reader();
    private final Doer doer = new Doer(state, asker);
    private final Runner runner = new Runner(state, doer);
    private final Search search = new Search(asker);
    private final Guesser guesser = new Guesser(asker);
    private final Draws draws = new Draws(asker);
    private final int[] refused = new int[REFUSALS];
    private int refusedBy = 0;
    private int faultAt = NONE;
    private int stoppedAt = NONE;
    private int rusty = 0;

    public CountGates() {
        for (int k = 0; k < IMAGES; k++) {
            images[k] = new State();
        }
    }

    public int gate(int from, int to, int kind, int arm) {
        return toldAnew(state.addGate(from, to, kind, arm));
    }

    public int at(int gate, int what) {
        if (!state.hasGate(gate)) {
            return NONE;
        }
        switch (what) {
            case 0: return state.from[gate];
            case 1: return state.to[gate];
            case 2: return state.kind[gate];
            case 3: return state.arm[gate];
            case 4: return state.open[gate] ? 1 : 0;
            default: return NONE;
        }
    }

    public int goer(int park, int many, int hurry) {
        return toldAnew(state.addGoer(park, many, hurry));
    }

    public int of(int goer, int what) {
        if (!state.hasGoer(goer)) {
            return NONE;
        }
        switch (what) {
            case 0: return state.park[goer];
            case 1: return state.many[goer];
            case 2: return state.hurry[goer];
            case 3: return state.paid[goer];
            case 4: return asker.canBits(state, goer);
            default: return NONE;
        }
    }

    public int asks(int goer, int gate, int many, int what) {
        if (!state.hasGoer(goer) || !state.hasGate(gate) || !within(many, MANYS)) {
            return NONE;
        }
        asker.regard(state, goer, gate, many);
        switch (what) {
            case 0: return asker.told(state, TURNS);
            case 1: return asker.told(state, PAYS);
            case 2: return asker.told(state, BARS);
            default: return NONE;
        }
    }

    public int terms(int what, int value) {
        return toldAnew(state.changeTerm(what, value));
    }

    public int feed(int a, int b, int c, int d, int e) {
        return tape.take(a, b, c, d, e);
    }

    public int end(int n) {
        return tape.shorten(n);
    }

    public int row() {
        if (tape.length == 0) {
            return told(BAD_TEXT);
        }
        int came = 0;
        rusty = 0;
        for (int i = 0; i < tape.length; i += 4) {
            if (state.addGate(tape.byteAt(i), tape.byteAt(i + 1), tape.byteAt(i + 2), tape.byteAt(i + 3)) < 0) {
                rusty++;
            } else {
                came++;
            }
        }
        tape.clear();
        return toldAnew(came);
    }

    public int rust() {
        return rusty;
    }

    public int law() {
        if (state.laws >= LAWS) {
            tape.clear();
            return told(NO_ROOM);
        }
        return readTape(false) ? told(state.addLaw(reader.text.copy())) : told(BAD_TEXT);
    }

    public int orders() {
        stoppedAt = NONE;
        if (!readTape(true)) {
            return told(BAD_TEXT);
        }
        doer.keepAhead();
        stoppedAt = runner.run(reader.text);
        if (stoppedAt != NONE) {
            doer.restoreAhead();
            return told(CANNOT);
        }
        return told(runner.done);
    }

    public int fault() {
        return faultAt;
    }

    public int stopped() {
        return stoppedAt;
    }

    public int force(int law) {
        if (law != NONE && !state.hasLaw(law)) {
            return told(NO_SUCH);
        }
        told(0);
        int was = state.force;
        state.force = law;
        return was;
    }

    public int go(int goer, int gate) {
        return told(doer.sendThrough(goer, gate));
    }

    public int latch(int gate) {
        return told(doer.flip(gate));
    }

    public int set(int gate, int arm) {
        return told(doer.changeArm(gate, arm));
    }

    public int pass() {
        return told(doer.nextDay());
    }

    public int undo() {
        return told(doer.takeBack());
    }

    public int way(int goer, int park, int many, int i) {
        if (!canSeek(goer, park, many)) {
            return NONE;
        }
        search.begin(state, goer);
        return i == NONE ? search.wayLength(park, many) : search.wayGate(park, many, i);
    }

    public int cheap(int goer, int park, int many) {
        if (!canSeek(goer, park, many)) {
            return NONE;
        }
        search.begin(state, goer);
        return search.leastToll(park, many);
    }

    public int manys(int goer, int park) {
        if (!canSeek(goer, park, NONE)) {
            return NONE;
        }
        search.begin(state, goer);
        return search.manyBits(park);
    }

    public int reach(int goer) {
        if (!state.hasGoer(goer)) {
            return NONE;
        }
        search.begin(state, goer);
        return search.parkBits();
    }

    public long ways(int goer, int park, int many, int n) {
        if (!canSeek(goer, park, many) || n < 0 || n > MOST_WAYS) {
            return NONE;
        }
        search.begin(state, goer);
        search.flow(1, n, false);
        return search.flowed(park, many);
    }

    public long likely(int goer, int park, int many, int n) {
        if (!canSeek(goer, park, many) || n < 0 || n > MOST_STEPS) {
            return NONE;
        }
        search.begin(state, goer);
        search.flow(WHOLE, n, true);
        return search.flowed(park, many);
    }

    public int again(int goer, int gate, int what) {
        if (!state.hasGoer(goer) || !state.hasGate(gate) || !within(what, 2)) {
            return NONE;
        }
        return asker.roundAndRound(state, goer, gate, what == 0);
    }

    public int fixed(int goer, int park, int many) {
        if (!canSeek(goer, park, many)) {
            return NONE;
        }
        search.begin(state, goer);
        return search.firstFix(park, many);
    }

    public int cut(int goer, int park, int what) {
        if (!canSeek(goer, park, NONE) || !within(what, 2) || state.park[goer] == park) {
            return NONE;
        }
        search.begin(state, goer);
        int shut = search.fewestShut(park);
        return what == 0 ? Integer.bitCount(shut) : shut;
    }

    public int meet(int one, int other, int what) {
        if (!state.hasGoer(one) || !state.hasGoer(other) || one == other || !within(what, 2)) {
            return NONE;
        }
        search.begin(state, one);
        search.keepSteps();
        search.begin(state, other);
        int place = search.meetingPlace();
        return what == 0 || place == NONE ? place : search.longerSteps(place);
    }

    public int seen(int arm, int many, int then) {
        return told(state.addSight(arm, many, then));
    }

    public int forget() {
        int were = state.sights;
        state.sights = 0;
        return were;
    }

    public int kinds() {
        return guesser.possible(state);
    }

    public int ask(int arm, int what) {
        if (!within(arm, ARMS) || !within(what, 2)) {
            return NONE;
        }
        return guesser.bestTrial(state, arm, what == 0);
    }

    public long few(int k, int n) {
        if (k < 1 || k > MOST_BITTEN || n < 0 || n > MOST_TRIED) {
            return NONE;
        }
        return guesser.fewerBitten(state.terms[BITES], k, n);
    }

    public int compare(int law, int goer, int park, int many) {
        if (law != NONE && !state.hasLaw(law) || !canSeek(goer, park, many)) {
            return NONE;
        }
        search.begin(state, goer);
        search.tryLaw(law);
        return search.wayLength(park, many);
    }

    public int days(int seed, int n) {
        if (!within(seed, MOST_SEED + 1) || n < 1 || n > MOST_DAYS) {
            return told(BAD_NUMBER);
        }
        if (state.goers == 0 || state.gates == 0) {
            return told(CANNOT);
        }
        return told(draws.run(state, seed, n));
    }

    public int drawn(int goer, int what) {
        return draws.behind(goer, what);
    }

    public int image(int k) {
        if (!within(k, IMAGES)) {
            return told(BAD_NUMBER);
        }
        images[k].copyFrom(state);
        kept[k] = true;
        return told(0);
    }

    public int back(int k) {
        if (!within(k, IMAGES)) {
            return told(BAD_NUMBER);
        }
        if (!kept[k]) {
            return told(NO_SUCH);
        }
        state.copyFrom(images[k]);
        return toldAnew(0);
    }

    public int count(int what) {
        switch (what) {
            case 0: return state.gates;
            case 1: return state.goers;
            case 2: return state.allMany();
            case 3: return state.sights;
            case 4: return state.laws;
            case 5: return doer.undoable;
            case 6: return tape.length;
            case 7: return refused[-BAD_NUMBER];
            case 8: return refused[-NO_SUCH];
            case 9: return refused[-CANNOT];
            case 10: return refused[-NO_ROOM];
            case 11: return refused[-BAD_TEXT];
            case 12: return state.force;
            case 13: return state.terms[DAY];
            case 14: return state.terms[BITES];
            case 15: return state.terms[MOOD];
            default: return NONE;
        }
    }

    public int status() {
        return refusedBy;
    }

    /** Keeps what a call was REFUSED by, which is so just if the answer is below 0. */
    private int told(int answer) {
        refusedBy = Math.min(answer, 0);
        if (answer < 0 && answer > -REFUSALS) {
            refused[-answer]++;
        }
        return answer;
    }

    /** As told(), of a call ahead of which nothing can be undone. */
    private int toldAnew(int answer) {
        if (answer >= 0) {
            doer.undoable = 0;
        }
        return told(answer);
    }

    private boolean readTape(boolean asOrders) {
        boolean whole = reader.read(tape, asOrders);
        faultAt = reader.fault;
        tape.clear();
        return whole;
    }

    private boolean canSeek(int goer, int park, int many) {
        return state.hasGoer(goer) && within(park, PARKS) && (many == NONE || within(many, MANYS));
    }

    private static boolean within(int number, int limit) {
        return number >= 0 && number < limit;
    }

    /** All that an IMAGE keeps. */
    private static final class State {
        int gates = 0;
        final int[] from = new int[GATES];
        final int[] to = new int[GATES];
        final int[] kind = new int[GATES];
        final int[] arm = new int[GATES];
        final boolean[] open = new boolean[GATES];
        int goers = 0;
        final int[] park = new int[GOERS];
        final int[] many = new int[GOERS];
        final int[] hurry = new int[GOERS];
        final int[] paid = new int[GOERS];
        int sights = 0;
        final int[] sightArm = new int[SIGHTS];
        final int[] sightMany = new int[SIGHTS];
        final int[] sightThen = new int[SIGHTS];
        final int[] terms = {0, 1, 0};
        int laws = 0;
        final Text[] texts = new Text[LAWS];
        int force = NONE;

        boolean hasGate(int gate) {
            return gate >= 0 && gate < gates;
        }

        boolean hasGoer(int goer) {
            return goer >= 0 && goer < goers;
        }

        boolean hasLaw(int law) {
            return law >= 0 && law < laws;
        }

        /** Null where there is no CLAUSE. */
        Text inForce() {
            return hasLaw(force) ? texts[force] : null;
        }

        int addGate(int fromPark, int toPark, int ofKind, int withArm) {
            if (!within(fromPark, PARKS) || !within(toPark, PARKS) || !within(ofKind, KINDS) || !within(withArm, ARMS)) {
                return BAD_NUMBER;
            }
            if (gates >= GATES) {
                return NO_ROOM;
            }
            from[gates] = fromPark;
            to[gates] = toPark;
            kind[gates] = ofKind;
            arm[gates] = withArm;
            open[gates] = true;
            return gates++;
        }

        int addGoer(int inPark, int asMany, int inHurry) {
            if (!within(inPark, PARKS) || !within(asMany, MANYS) || !within(inHurry, HURRIES)) {
                return BAD_NUMBER;
            }
            if (goers >= GOERS) {
                return NO_ROOM;
            }
            park[goers] = inPark;
            many[goers] = asMany;
            hurry[goers] = inHurry;
            paid[goers] = 0;
            return goers++;
        }

        int addSight(int byArm, int asMany, int then) {
            if (!within(byArm, ARMS) || !within(asMany, MANYS) || !within(then, MANYS)) {
                return BAD_NUMBER;
            }
            if (sights >= SIGHTS) {
                return NO_ROOM;
            }
            sightArm[sights] = byArm;
            sightMany[sights] = asMany;
            sightThen[sights] = then;
            sights++;
            return sights;
        }

        int addLaw(Text text) {
            if (laws >= LAWS) {
                return NO_ROOM;
            }
            texts[laws] = text;
            return laws++;
        }

        int changeTerm(int what, int value) {
            if (!within(what, TERMS)) {
                return BAD_NUMBER;
            }
            int most = what == DAY ? LAST_DAY : what == BITES ? 10 : 9;
            if (value < 0 || value > most) {
                return BAD_NUMBER;
            }
            int was = terms[what];
            terms[what] = value;
            return was;
        }

        int allMany() {
            int all = 0;
            for (int g = 0; g < goers; g++) {
                all += many[g];
            }
            return all;
        }

        void copyFrom(State other) {
            gates = other.gates;
            goers = other.goers;
            sights = other.sights;
            laws = other.laws;
            force = other.force;
            for (int g = 0; g < GATES; g++) {
                from[g] = other.from[g];
                to[g] = other.to[g];
                kind[g] = other.kind[g];
                arm[g] = other.arm[g];
                open[g] = other.open[g];
            }
            for (int g = 0; g < GOERS; g++) {
                park[g] = other.park[g];
                many[g] = other.many[g];
                hurry[g] = other.hurry[g];
                paid[g] = other.paid[g];
            }
            for (int s = 0; s < SIGHTS; s++) {
                sightArm[s] = other.sightArm[s];
                sightMany[s] = other.sightMany[s];
                sightThen[s] = other.sightThen[s];
            }
            for (int t = 0; t < TERMS; t++) {
                terms[t] = other.terms[t];
            }
            for (int l = 0; l < LAWS; l++) {
                texts[l] = other.texts[l];
            }
        }
    }

    private static final class Tape {
        final int[] bytes = new int[TAPE];
        int length = 0;

        int take(int a, int b, int c, int d, int e) {
            if (length > TAPE - 20) {
                return NONE;
            }
            takeFour(a);
            takeFour(b);
            takeFour(c);
            takeFour(d);
            takeFour(e);
            return length;
        }

        private void takeFour(int number) {
            for (int shift = 24; shift >= 0 && length < TAPE; shift -= 8) {
                bytes[length++] = number >>> shift & 255;
            }
        }

        int shorten(int n) {
            if (n < 0 || n > length) {
                return NONE;
            }
            length = n;
            return n;
        }

        void clear() {
            length = 0;
        }

        /** NONE behind the end, which is no number of a GATE either. */
        int byteAt(int i) {
            return i >= 0 && i < length ? bytes[i] : NONE;
        }
    }

    /** A TEXT as it was read: CLAUSES, their SUMS and TESTS as code that works on a stack. */
    private static final class Text {
        /** A step of the code is what it does and CODE times what it does that with. */
        static final int CODE = 512;

        int clauses = 0;
        int size = 0;
        final int[] verb;
        final int[] times;
        /** By CLAUSE where its first SUM, its second one and its TEST begin and where that ends. */
        final int[] bounds;
        final int[] code;

        Text(int mostClauses, int mostCode) {
            verb = new int[mostClauses];
            times = new int[mostClauses];
            bounds = new int[4 * mostClauses];
            code = new int[mostCode];
        }

        /** No larger than it has to be, as it is kept. */
        Text copy() {
            Text copy = new Text(clauses, size);
            copy.clauses = clauses;
            copy.size = size;
            System.arraycopy(verb, 0, copy.verb, 0, clauses);
            System.arraycopy(times, 0, copy.times, 0, clauses);
            System.arraycopy(bounds, 0, copy.bounds, 0, 4 * clauses);
            System.arraycopy(code, 0, copy.code, 0, size);
            return copy;
        }

        void clear() {
            clauses = 0;
            size = 0;
        }

        /** The place of the step. There are fewer steps than TOKENS, so that there is room for each. */
        int add(int does, int with) {
            if (size >= code.length) {
                return NONE;
            }
            code[size] = does + CODE * with;
            return size++;
        }

        /** Lets the step at a place, an "or" or "and", go on from the next step that will be added. */
        void aim(int place) {
            if (place >= 0 && place < size) {
                code[place] = code[place] % CODE + CODE * size;
            }
        }

        boolean has(int clause, int which) {
            return bounds[4 * clause + which] < bounds[4 * clause + which + 1];
        }

        /** A SUM (0, 1), or a TEST (2) as 1 or 0; BROKEN. */
        int reckon(int clause, int which, int[] words, int[] stack) {
            int stop = Math.min(bounds[4 * clause + which + 1], size);
            int top = -1;
            for (int i = bounds[4 * clause + which]; i < stop; i++) {
                int does = code[i] % CODE;
                int with = code[i] / CODE;
                if (does == NUMBER || does == WORD) {
                    top++;
                    if (top >= stack.length || with >= words.length && does == WORD) {
                        return BROKEN;
                    }
                    stack[top] = does == NUMBER ? with : words[with];
                } else if (top < 0) {
                    return BROKEN;
                } else if (does == NOT) {
                    stack[top] = 1 - stack[top];
                } else if (does == OR || does == AND) {
                    if (stack[top] == (does == OR ? 1 : 0)) {
                        i = Math.max(i, with - 1);
                    } else {
                        top--;
                    }
                } else {
                    top--;
                    int joined = top < 0 ? BROKEN : join(does, stack[top], stack[top + 1]);
                    if (joined == BROKEN) {
                        return BROKEN;
                    }
                    stack[top] = joined;
                }
            }
            return top == 0 ? stack[0] : BROKEN;
        }

        private static int join(int sign, long left, long right) {
            if ((sign == '/' || sign == '%') && right == 0) {
                return BROKEN;
            }
            long joined;
            switch (sign) {
                case '+': joined = left + right; break;
                case '-': joined = left - right; break;
                case '*': joined = left * right; break;
                case '/': joined = left / right; break;
                case '%': joined = left % right; break;
                case '<': joined = left < right ? 1 : 0; break;
                case '>': joined = left > right ? 1 : 0; break;
                default: joined = left == right ? 1 : 0; break;
            }
            return joined < -MOST_SUM || joined > MOST_SUM ? BROKEN : (int) joined;
        }
    }

    /** Reads a TAPE as a LAW or as ORDERS. What reads a piece tells whether there was no FAULT in it. */
    private static final class Reader {
        private static final int LETTER = 1;
        private static final int DIGIT = 2;
        private static final int OTHER = 3;

        final Text text = new Text(CLAUSES, TAPE);
        int fault = NONE;
        private final int[] token = new int[TAPE + 1];
        private final int[] value = new int[TAPE + 1];
        private final int[] place = new int[TAPE + 1];
        private int tokens = 0;
        private int now = 0;
        private int parts = 0;
        private boolean asOrders = false;

        boolean read(Tape tape, boolean ordersOnIt) {
            split(tape);
            asOrders = ordersOnIt;
            now = 0;
            parts = 0;
            fault = NONE;
            text.clear();
            boolean more = true;
            for (int n = 0; n <= CLAUSES && more; n++) {
                if (!clause()) {
                    return false;
                }
                more = here() == ';';
                if (more) {
                    now++;
                }
            }
            return here() == END || faulty();
        }

        private void split(Tape tape) {
            tokens = 0;
            int i = 0;
            for (int n = 0; n < TAPE && i < tape.length; n++) {
                int stop = i + 1;
                if (tape.bytes[i] != ' ') {
                    stop = behindToken(tape, i);
                    addToken(tape, i, stop);
                }
                i = stop;
            }
            token[tokens] = END;
            place[tokens] = tape.length;
            tokens++;
        }

        private int behindToken(Tape tape, int start) {
            int sort = sortOf(tape.bytes[start]);
            int stop = start + 1;
            while (sort != OTHER && stop < tape.length && sortOf(tape.bytes[stop]) == sort) {
                stop++;
            }
            return stop;
        }

        private void addToken(Tape tape, int start, int stop) {
            int sort = sortOf(tape.bytes[start]);
            place[tokens] = start;
            value[tokens] = 0;
            if (sort == LETTER) {
                token[tokens] = wordOf(tape, start, stop);
            } else if (sort == DIGIT) {
                token[tokens] = NUMBER;
                for (int i = start; i < stop; i++) {
                    value[tokens] = Math.min(10 * value[tokens] + tape.bytes[i] - '0', MOST_NUMBER + 1);
                }
            } else {
                token[tokens] = tape.bytes[start];
            }
            tokens++;
        }

        private static int sortOf(int sign) {
            return sign >= 'a' && sign <= 'z' ? LETTER : sign >= '0' && sign <= '9' ? DIGIT : OTHER;
        }

        private static int wordOf(Tape tape, int start, int stop) {
            int word = TURNS;
            int i = start;
            boolean same = true;
            for (int k = 0; k < SPELLED.length(); k++) {
                char letter = SPELLED.charAt(k);
                if (letter == ' ') {
                    if (same && i == stop) {
                        return word;
                    }
                    word++;
                    i = start;
                    same = true;
                } else {
                    same = same && i < stop && tape.bytes[i] == letter;
                    i++;
                }
            }
            return STRANGE;
        }

        private int here() {
            return now < tokens ? token[now] : END;
        }

        private boolean faulty() {
            fault = now < tokens ? place[now] : NONE;
            return false;
        }

        private boolean take(int due) {
            if (here() != due) {
                return faulty();
            }
            now++;
            return true;
        }

        private boolean clause() {
            int c = text.clauses;
            int verb = here();
            if (c >= CLAUSES || (asOrders ? verb < GO || verb > PASS : verb < TURNS || verb > BARS)) {
                return faulty();
            }
            now++;
            text.verb[c] = verb;
            text.times[c] = 1;
            text.bounds[4 * c] = text.size;
            if (verb != BARS && verb != PASS && !sum(0)) {
                return false;
            }
            text.bounds[4 * c + 1] = text.size;
            if (verb == GO && !(take(BY) && sum(0)) || verb == SET && !(take(AS) && sum(0))) {
                return false;
            }
            text.bounds[4 * c + 2] = text.size;
            if (asOrders && here() == TIMES && !times(c)) {
                return false;
            }
            if (here() == IF) {
                now++;
                if (!test(0, OR)) {
                    return false;
                }
            }
            text.bounds[4 * c + 3] = text.size;
            text.clauses++;
            return true;
        }

        private boolean times(int clause) {
            now++;
            if (here() != NUMBER || value[now] < 1 || value[now] > MOST_TIMES) {
                return faulty();
            }
            text.times[clause] = value[now];
            now++;
            return true;
        }

        /** TEST (joined by OR) and BOTH (by AND): the code skips what stands behind when that can't matter. */
        private boolean test(int depth, int joint) {
            int skip = NONE;
            for (int n = 0; n <= TAPE; n++) {
                if (!(joint == OR ? test(depth, AND) : plain(depth))) {
                    return false;
                }
                text.aim(skip);
                if (here() != joint) {
                    return true;
                }
                skip = text.add(joint, 0);
                now++;
            }
            return faulty();
        }

        private boolean plain(int depth) {
            boolean turned = false;
            for (int n = 0; n <= TAPE && here() == NOT; n++) {
                turned = !turned;
                now++;
            }
            if (!(here() == '(' ? inBrackets(depth, ')') : comparison(depth))) {
                return false;
            }
            if (turned) {
                text.add(NOT, 0);
            }
            return true;
        }

        private boolean comparison(int depth) {
            if (!sum(depth)) {
                return false;
            }
            int sign = here();
            if (sign != '<' && sign != '>' && sign != '=') {
                return faulty();
            }
            now++;
            if (!sum(depth)) {
                return false;
            }
            text.add(sign, 0);
            return true;
        }

        private boolean inBrackets(int depth, int closing) {
            if (depth >= BRACKETS) {
                return faulty();
            }
            now++;
            return (closing == ')' ? test(depth + 1, OR) : sum(depth + 1)) && take(closing);
        }

        private boolean sum(int depth) {
            boolean whole = term(depth);
            for (int n = 0; n <= TAPE && whole && (here() == '+' || here() == '-'); n++) {
                int sign = here();
                now++;
                whole = term(depth);
                text.add(sign, 0);
            }
            return whole;
        }

        private boolean term(int depth) {
            boolean whole = part(depth);
            for (int n = 0; n <= TAPE && whole && (here() == '*' || here() == '/' || here() == '%'); n++) {
                int sign = here();
                now++;
                whole = part(depth);
                text.add(sign, 0);
            }
            return whole;
        }

        private boolean part(int depth) {
            if (here() == '[') {
                return inBrackets(depth, ']');
            }
            if (parts >= PARTS) {
                return faulty();
            }
            parts++;
            if (here() == NUMBER) {
                if (value[now] > MOST_NUMBER) {
                    return faulty();
                }
                text.add(NUMBER, value[now]);
                now++;
                return true;
            }
            int word = asOrders ? orderWord() : lawWord();
            if (word == NONE) {
                return faulty();
            }
            text.add(WORD, word);
            now++;
            return true;
        }

        private int lawWord() {
            int word = here();
            return word >= W_KIND && word <= W_MOOD ? word - W_KIND : NONE;
        }

        private int orderWord() {
            switch (here()) {
                case W_DAY: return ORDER_DAY;
                case W_DONE: return ORDER_DONE;
                case W_LATEST: return ORDER_LATEST;
                case W_WHOLE: return ORDER_WHOLE;
                case W_MANY: return numberedWord(ORDER_MANY, GOERS);
                case W_PARK: return numberedWord(ORDER_PARK, GOERS);
                case W_ARM: return numberedWord(ORDER_ARM, GATES);
                default: return NONE;
            }
        }

        /** Goes on to the number, where the FAULT is if it can't be. */
        private int numberedWord(int first, int limit) {
            now++;
            return here() == NUMBER && value[now] < limit ? first + value[now] : NONE;
        }
    }

    /** Asks the LAW in FORCE of a GATE and a GOER. Whoever calls has looked whether there are these. */
    private static final class Asker {
        private final int[] words = new int[LAW_WORDS];
        private final int[] stack = new int[PARTS];
        private final int[] firstTime = new int[MANYS];

        void regard(State state, int goer, int gate, int many) {
            regardUnknown(state, state.kind[gate], state.arm[gate], many);
            words[3] = state.hurry[goer];
            words[4] = gate;
            words[5] = goer;
        }

        /** Of a gate of which nobody knows the KIND, as if it were of this one. */
        void regardUnknown(State state, int kind, int arm, int many) {
            words[0] = kind;
            words[1] = arm;
            words[LAW_MANY] = many;
            words[3] = 0;
            words[4] = NONE;
            words[5] = NONE;
            words[6] = state.terms[DAY];
            words[7] = state.terms[MOOD];
        }

        /** As how many one comes out (TURNS), what one PAYS, whether one is barred (BARS: 1, 0). */
        int told(State state, int verb) {
            int told = BROKEN;
            Text law = state.inForce();
            if (law != null) {
                for (int c = law.clauses - 1; c >= 0 && told == BROKEN; c--) {
                    if (law.verb[c] == verb && (!law.has(c, 2) || law.reckon(c, 2, words, stack) == 1)) {
                        told = verb == BARS ? 1 : law.reckon(c, 0, words, stack);
                    }
                }
            }
            switch (verb) {
                case TURNS: return told == BROKEN ? Math.max(words[LAW_MANY] - 1, 0) : Math.max(0, Math.min(told, MANYS - 1));
                case PAYS: return told == BROKEN ? 1 : Math.max(0, Math.min(told, MOST_TOLL));
                default: return told == BROKEN ? 0 : 1;
            }
        }

        boolean can(State state, int goer, int gate) {
            if (state.park[goer] != state.from[gate] || !state.open[gate]) {
                return false;
            }
            regard(state, goer, gate, state.many[goer]);
            return told(state, BARS) == 0;
        }

        int canBits(State state, int goer) {
            int bits = 0;
            for (int gate = 0; gate < state.gates; gate++) {
                if (can(state, goer, gate)) {
                    bits |= 1 << gate;
                }
            }
            return bits;
        }

        /** Lets a GOER who CAN go. */
        void move(State state, int goer, int gate) {
            regard(state, goer, gate, state.many[goer]);
            int many = told(state, TURNS);
            int toll = told(state, PAYS);
            state.park[goer] = state.to[gate];
            state.many[goer] = many;
            state.paid[goer] = Math.min(state.paid[goer] + toll, MOST_PAID);
        }

        /** AGAIN: the STEPS ahead, or after how many it comes each time. */
        int roundAndRound(State state, int goer, int gate, boolean ahead) {
            Arrays.fill(firstTime, NONE);
            int many = state.many[goer];
            for (int step = 0; step <= MANYS; step++) {
                if (firstTime[many] != NONE) {
                    return ahead ? firstTime[many] : step - firstTime[many];
                }
                firstTime[many] = step;
                regard(state, goer, gate, many);
                many = told(state, TURNS);
            }
            return NONE;
        }
    }

    /** Takes steps for good and keeps how to undo them. */
    private static final class Doer {
        /** A step kept: what it was, of whom, and three numbers that were so ahead. */
        private static final int ROW = 5;

        int undoable = 0;
        private final int[] rows = new int[UNDOABLE * ROW];
        private final State state;
        private final Asker asker;
        private final State stateAhead = new State();
        private final int[] rowsAhead = new int[UNDOABLE * ROW];
        private int undoableAhead = 0;

        Doer(State itsState, Asker itsAsker) {
            state = itsState;
            asker = itsAsker;
        }

        int sendThrough(int goer, int gate) {
            if (!state.hasGoer(goer) || !state.hasGate(gate)) {
                return NO_SUCH;
            }
            if (!asker.can(state, goer, gate)) {
                return CANNOT;
            }
            keep(GO, goer, state.park[goer], state.many[goer], state.paid[goer]);
            asker.move(state, goer, gate);
            return state.many[goer];
        }

        int flip(int gate) {
            if (!state.hasGate(gate)) {
                return NO_SUCH;
            }
            keep(LATCH, gate, 0, 0, 0);
            state.open[gate] = !state.open[gate];
            return state.open[gate] ? 1 : 0;
        }

        int changeArm(int gate, int arm) {
            if (!within(arm, ARMS)) {
                return BAD_NUMBER;
            }
            if (!state.hasGate(gate)) {
                return NO_SUCH;
            }
            int was = state.arm[gate];
            if (was == arm) {
                return CANNOT;
            }
            keep(SET, gate, was, 0, 0);
            state.arm[gate] = arm;
            return was;
        }

        int nextDay() {
            if (state.terms[DAY] >= LAST_DAY) {
                return CANNOT;
            }
            keep(PASS, 0, 0, 0, 0);
            state.terms[DAY]++;
            return state.terms[DAY];
        }

        int takeBack() {
            if (undoable <= 0) {
                return CANNOT;
            }
            undoable--;
            int row = undoable * ROW;
            int who = rows[row + 1];
            if (rows[row] == GO && state.hasGoer(who)) {
                state.park[who] = rows[row + 2];
                state.many[who] = rows[row + 3];
                state.paid[who] = rows[row + 4];
            } else if (rows[row] == LATCH && state.hasGate(who)) {
                state.open[who] = !state.open[who];
            } else if (rows[row] == SET && state.hasGate(who)) {
                state.arm[who] = rows[row + 2];
            } else if (rows[row] == PASS) {
                state.terms[DAY]--;
            }
            return rows[row] - GO;
        }

        private void keep(int what, int who, int first, int second, int third) {
            if (undoable >= UNDOABLE) {
                System.arraycopy(rows, ROW, rows, 0, (UNDOABLE - 1) * ROW);
                undoable = UNDOABLE - 1;
            }
            int row = undoable * ROW;
            rows[row] = what;
            rows[row + 1] = who;
            rows[row + 2] = first;
            rows[row + 3] = second;
            rows[row + 4] = third;
            undoable++;
        }

        void keepAhead() {
            stateAhead.copyFrom(state);
            System.arraycopy(rows, 0, rowsAhead, 0, rows.length);
            undoableAhead = undoable;
        }

        void restoreAhead() {
            state.copyFrom(stateAhead);
            System.arraycopy(rowsAhead, 0, rows, 0, rows.length);
            undoable = undoableAhead;
        }
    }

    /** Runs ORDERS. */
    private static final class Runner {
        int done = 0;
        private int latest = NONE;
        private final State state;
        private final Doer doer;
        private final int[] words = new int[ORDER_WORDS];
        private final int[] stack = new int[PARTS];

        Runner(State itsState, Doer itsDoer) {
            state = itsState;
            doer = itsDoer;
        }

        /** The CLAUSE that could not be, NONE if all could. */
        int run(Text text) {
            done = 0;
            latest = NONE;
            for (int c = 0; c < text.clauses; c++) {
                for (int n = 0; n < text.times[c]; n++) {
                    if (!runOnce(text, c)) {
                        return c;
                    }
                }
            }
            return NONE;
        }

        private boolean runOnce(Text text, int clause) {
            lookRound();
            if (text.has(clause, 2) && text.reckon(clause, 2, words, stack) != 1) {
                return true;
            }
            int first = text.has(clause, 0) ? text.reckon(clause, 0, words, stack) : 0;
            int second = text.has(clause, 1) ? text.reckon(clause, 1, words, stack) : 0;
            if (first == BROKEN || second == BROKEN) {
                return false;
            }
            int told;
            switch (text.verb[clause]) {
                case GO:
                    told = doer.sendThrough(first, second);
                    latest = told;
                    break;
                case LATCH: told = doer.flip(first); break;
                case SET: told = doer.changeArm(first, second); break;
                default: told = doer.nextDay(); break;
            }
            if (told < 0) {
                return false;
            }
            done++;
            return true;
        }

        private void lookRound() {
            words[ORDER_DAY] = state.terms[DAY];
            words[ORDER_DONE] = done;
            words[ORDER_LATEST] = latest;
            words[ORDER_WHOLE] = 0;
            for (int g = 0; g < GOERS; g++) {
                boolean is = state.hasGoer(g);
                words[ORDER_MANY + g] = is ? state.many[g] : NONE;
                words[ORDER_PARK + g] = is ? state.park[g] : NONE;
                if (is && state.many[g] == 1) {
                    words[ORDER_WHOLE]++;
                }
            }
            for (int g = 0; g < GATES; g++) {
                words[ORDER_ARM + g] = state.hasGate(g) ? state.arm[g] : NONE;
            }
        }
    }

    /** What one GOER could do, on paper. A PLACE is 20 times a PARK and a MANY. */
    private static final class Search {
        private static final int UNASKED = -2;

        private final State paper = new State();
        private final Asker asker;
        private int goer = 0;
        /** By GATE and MANY as how many the GOER comes out; NONE: BARRED. */
        private final int[] outs = new int[GATES * MANYS];
        private final int[] queue = new int[PLACES];
        private final int[] steps = new int[PLACES];
        private final int[] lastGate = new int[PLACES];
        private final int[] placeAhead = new int[PLACES];
        private final int[] otherSteps = new int[PLACES];
        private final int[] tolls = new int[PLACES];
        /** 1 by PLACE to which no row can be cheaper any more. */
        private final int[] settled = new int[PLACES];
        private final long[] flowing = new long[PLACES];
        private final long[] flowingThen = new long[PLACES];

        Search(Asker itsAsker) {
            asker = itsAsker;
        }

        void begin(State state, int itsGoer) {
            paper.copyFrom(state);
            goer = itsGoer;
            Arrays.fill(outs, UNASKED);
        }

        void tryLaw(int law) {
            paper.force = law;
        }

        private void tryArm(int gate, int arm) {
            paper.arm[gate] = arm;
            for (int many = 0; many < MANYS; many++) {
                outs[gate * MANYS + many] = UNASKED;
            }
        }

        private int start() {
            return paper.park[goer] * MANYS + paper.many[goer];
        }

        private static boolean isAt(int place, int park, int many) {
            return place / MANYS == park && (many == NONE || place % MANYS == many);
        }

        /** The PLACE behind a GATE; NONE, if the GOER can't go through from there. */
        private int behind(int gate, int place) {
            if (paper.from[gate] != place / MANYS || !paper.open[gate]) {
                return NONE;
            }
            int many = place % MANYS;
            int asked = gate * MANYS + many;
            if (outs[asked] == UNASKED) {
                asker.regard(paper, goer, gate, many);
                outs[asked] = asker.told(paper, BARS) == 1 ? NONE : asker.told(paper, TURNS);
            }
            return outs[asked] == NONE ? NONE : paper.to[gate] * MANYS + outs[asked];
        }

        /**
         * The PLACE at which the WAY ends, NONE without one. As the queue holds the PLACES in the order of
         * their first rows of GATES, the first that is found is that of the first row.
         */
        private int find(int park, int many) {
            Arrays.fill(steps, NONE);
            queue[0] = start();
            steps[queue[0]] = 0;
            if (isAt(queue[0], park, many)) {
                return queue[0];
            }
            int queued = 1;
            for (int i = 0; i < queued && i < PLACES; i++) {
                int parkHere = queue[i] / MANYS;
                for (int gate = 0; gate < paper.gates; gate++) {
                    int then = paper.from[gate] == parkHere ? behind(gate, queue[i]) : NONE;
                    if (then == NONE || steps[then] != NONE || queued >= PLACES) {
                        continue;
                    }
                    steps[then] = steps[queue[i]] + 1;
                    lastGate[then] = gate;
                    placeAhead[then] = queue[i];
                    if (isAt(then, park, many)) {
                        return then;
                    }
                    queue[queued++] = then;
                }
            }
            return NONE;
        }

        /** Finds the steps to all PLACES, as no PARK is NONE. */
        private void findAll() {
            find(NONE, NONE);
        }

        int wayLength(int park, int many) {
            int place = find(park, many);
            return place == NONE ? NONE : steps[place];
        }

        int wayGate(int park, int many, int i) {
            int place = find(park, many);
            if (place == NONE || i < 0 || i >= steps[place]) {
                return NONE;
            }
            for (int k = steps[place] - 1; k > i; k--) {
                place = placeAhead[place];
            }
            return lastGate[place];
        }

        int manyBits(int park) {
            findAll();
            int bits = 0;
            for (int many = 0; many < MANYS; many++) {
                if (steps[park * MANYS + many] != NONE) {
                    bits |= 1 << many;
                }
            }
            return bits;
        }

        int parkBits() {
            findAll();
            int bits = 0;
            for (int place = 0; place < PLACES; place++) {
                if (steps[place] != NONE) {
                    bits |= 1 << place / MANYS;
                }
            }
            return bits;
        }

        /** CHEAP, settling the PLACES from the least to PAY on. */
        int leastToll(int park, int many) {
            Arrays.fill(tolls, NONE);
            Arrays.fill(settled, 0);
            tolls[start()] = 0;
            for (int n = 0; n < PLACES; n++) {
                int place = cheapestUnsettled();
                if (place == NONE || isAt(place, park, many)) {
                    return place == NONE ? NONE : tolls[place];
                }
                settled[place] = 1;
                for (int gate = 0; gate < paper.gates; gate++) {
                    payInto(gate, place);
                }
            }
            return NONE;
        }

        private int cheapestUnsettled() {
            int best = NONE;
            for (int place = 0; place < PLACES; place++) {
                if (settled[place] == 0 && tolls[place] != NONE && (best == NONE || tolls[place] < tolls[best])) {
                    best = place;
                }
            }
            return best;
        }

        private void payInto(int gate, int place) {
            int then = behind(gate, place);
            if (then == NONE) {
                return;
            }
            asker.regard(paper, goer, gate, place % MANYS);
            int toll = tolls[place] + asker.told(paper, PAYS);
            if (tolls[then] == NONE || toll < tolls[then]) {
                tolls[then] = toll;
            }
        }

        /** Lets an amount go n steps: whole through each GATE, or shared among them. */
        void flow(long amount, int n, boolean shared) {
            Arrays.fill(flowing, 0);
            flowing[start()] = amount;
            for (int k = 0; k < n; k++) {
                Arrays.fill(flowingThen, 0);
                for (int place = 0; place < PLACES; place++) {
                    if (flowing[place] > 0) {
                        flowFrom(place, shared);
                    }
                }
                System.arraycopy(flowingThen, 0, flowing, 0, PLACES);
            }
        }

        private void flowFrom(int place, boolean shared) {
            int exits = 0;
            for (int gate = 0; gate < paper.gates; gate++) {
                exits += behind(gate, place) == NONE ? 0 : 1;
            }
            if (exits == 0) {
                flowingThen[place] += shared ? flowing[place] : 0;
                return;
            }
            long each = shared ? flowing[place] / exits : flowing[place];
            for (int gate = 0; gate < paper.gates; gate++) {
                int then = behind(gate, place);
                if (then != NONE) {
                    flowingThen[then] += each;
                }
            }
        }

        long flowed(int park, int many) {
            long all = 0;
            for (int place = 0; place < PLACES; place++) {
                all += isAt(place, park, many) ? flowing[place] : 0;
            }
            return all;
        }

        int firstFix(int park, int many) {
            if (find(park, many) != NONE) {
                return NOTHING_TO_FIX;
            }
            for (int gate = 0; gate < paper.gates; gate++) {
                int was = paper.arm[gate];
                for (int arm = 0; arm < ARMS; arm++) {
                    tryArm(gate, arm);
                    if (arm != was && find(park, many) != NONE) {
                        return 10 * gate + arm;
                    }
                }
                tryArm(gate, was);
            }
            return NONE;
        }

        /** CUT as bits. The OPEN GATES all together are always one, as the GOER is elsewhere. */
        int fewestShut(int park) {
            int open = 0;
            for (int gate = 0; gate < paper.gates; gate++) {
                open |= paper.open[gate] ? 1 << gate : 0;
            }
            for (int few = 0; few < GATES; few++) {
                for (int bits = 0; bits <= open; bits++) {
                    if ((bits & open) == bits && Integer.bitCount(bits) == few && shuts(open & ~bits, park)) {
                        return bits;
                    }
                }
            }
            return open;
        }

        private boolean shuts(int open, int park) {
            for (int gate = 0; gate < paper.gates; gate++) {
                paper.open[gate] = (open >> gate & 1) == 1;
            }
            return find(park, NONE) == NONE;
        }

        void keepSteps() {
            findAll();
            System.arraycopy(steps, 0, otherSteps, 0, PLACES);
        }

        /** Where the GOER can MEET the one whose steps were kept. */
        int meetingPlace() {
            findAll();
            int best = NONE;
            for (int place = 0; place < PLACES; place++) {
                if (steps[place] != NONE && otherSteps[place] != NONE
                        && (best == NONE || longerSteps(place) < longerSteps(best))) {
                    best = place;
                }
            }
            return best;
        }

        int longerSteps(int place) {
            return within(place, PLACES) ? Math.max(steps[place], otherSteps[place]) : NONE;
        }
    }

    /** Guesses by what was SEEN, and by BITES. */
    private static final class Guesser {
        private static final int UNSEEN = -2;

        private final Asker asker;
        /** By KIND as how many one comes out; NONE: BARRED; UNSEEN: it can't be this KIND. */
        private final int[] turned = new int[KINDS];
        private final long[] bitten = new long[MOST_BITTEN];

        Guesser(Asker itsAsker) {
            asker = itsAsker;
        }

        private int comesOut(State state, int kind, int arm, int many) {
            asker.regardUnknown(state, kind, arm, many);
            return asker.told(state, BARS) == 1 ? NONE : asker.told(state, TURNS);
        }

        int possible(State state) {
            int bits = 0;
            for (int kind = 0; kind < KINDS; kind++) {
                boolean fits = true;
                for (int s = 0; s < state.sights && fits; s++) {
                    fits = comesOut(state, kind, state.sightArm[s], state.sightMany[s]) == state.sightThen[s];
                }
                bits |= fits ? 1 << kind : 0;
            }
            return bits;
        }

        /** To ASK: the MANY, or how many KINDS are left at most. */
        int bestTrial(State state, int arm, boolean asksMany) {
            int bits = possible(state);
            if (bits == 0) {
                return NONE;
            }
            int best = NONE;
            int fewest = KINDS + 1;
            for (int many = 0; many < MANYS; many++) {
                for (int kind = 0; kind < KINDS; kind++) {
                    turned[kind] = (bits >> kind & 1) == 1 ? comesOut(state, kind, arm, many) : UNSEEN;
                }
                int alike = mostAlike();
                if (alike < fewest) {
                    fewest = alike;
                    best = many;
                }
            }
            return asksMany ? best : fewest;
        }

        private int mostAlike() {
            int most = 0;
            for (int kind = 0; kind < KINDS; kind++) {
                int alike = 0;
                for (int other = 0; other < KINDS; other++) {
                    alike += turned[other] == turned[kind] && turned[kind] != UNSEEN ? 1 : 0;
                }
                most = Math.max(most, alike);
            }
            return most;
        }

        /** FEW: each part goes on as bitten or not, either cut. */
        long fewerBitten(int bites, int k, int n) {
            Arrays.fill(bitten, 0);
            bitten[0] = WHOLE;
            for (int tried = 0; tried < n; tried++) {
                for (int b = MOST_BITTEN - 1; b >= 0; b--) {
                    bitten[b] = bitten[b] * (10 - bites) / 10 + (b > 0 ? bitten[b - 1] * bites / 10 : 0);
                }
            }
            long all = 0;
            for (int b = 0; b < k && b < MOST_BITTEN; b++) {
                all += bitten[b];
            }
            return all;
        }
    }

    /** DAYS by draws, on a paper that is kept as the latest. */
    private static final class Draws {
        private final State paper = new State();
        private final Asker asker;
        private int seed = 0;

        Draws(Asker itsAsker) {
            asker = itsAsker;
        }

        int run(State state, int itsSeed, int n) {
            paper.copyFrom(state);
            seed = itsSeed;
            int went = 0;
            for (int k = 0; k < n && paper.terms[DAY] < LAST_DAY; k++) {
                int goer = draw(paper.goers);
                int gate = draw(paper.gates);
                if (paper.hasGoer(goer) && paper.hasGate(gate) && asker.can(paper, goer, gate)) {
                    asker.move(paper, goer, gate);
                    went++;
                }
                paper.terms[DAY]++;
            }
            return went;
        }

        private int draw(int limit) {
            seed = (seed * 1103 + 12345) % 1_000_003;
            return limit > 0 ? seed % limit : NONE;
        }

        /** There are no GOERS on the paper ahead of any DAYS. */
        int behind(int goer, int what) {
            if (!paper.hasGoer(goer)) {
                return NONE;
            }
            switch (what) {
                case 0: return paper.park[goer];
                case 1: return paper.many[goer];
                case 2: return paper.paid[goer];
                default: return NONE;
            }
        }
    }
}
