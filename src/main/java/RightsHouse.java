import java.util.Arrays;
import java.util.NoSuchElementException;

/** A house of rights: see README.md for its use; the promises stand in the project's document. */
public final class RightsHouse {
    public static final int NONE = -1;

    private static final int PARTS = 10;
    private static final int LINES = 12;
    private static final int RIGHTS = 16;
    private static final int NAMES = 8;
    private static final int SOURCES = 4;
    private static final int TAPE_BYTES = 300;
    private static final int FED_BYTES = 20;
    private static final int CURABLE = 10;
    private static final int ALL_RIGHTS = 65535;
    private static final int NOTHING = -2;

    private static final int GET = 0;
    private static final int LET = 1;
    private static final int ASK = 2;
    private static final int PUT = 3;
    private static final int WASH = 4;
    private static final int RESULT = 5;

    private static final int FORM = 1;
    private static final int NO_NAME = 2;
    private static final int NO_NUMBER = 3;
    private static final int MANY = 4;

    private static final int FINE = 0;
    private static final int NONE_SUCH = 1;
    private static final int BAD_NUMBER = 2;
    private static final int NO_ROOM = 3;
    private static final int FAULTY = 4;
    private static final int THERE_IS_NONE = 5;
    private static final int TOO_MANY = 6;

    // Places that a secret can be at: of each part its names, its result, and the doors by which it puts out.
    private static final int RESULT_SPOT = NAMES;
    private static final int EXITS = NAMES + 1;
    private static final int SPOTS = EXITS + RIGHTS;
    private static final int PLACES = PARTS * SPOTS;
    private static final int LINKS = PARTS * LINES * SOURCES;
    // A shortest row is at no place twice: a line to each name and result, and one out.
    private static final int STEPS = PARTS * (NAMES + 1) + 1;
    private static final int FAR = 1000;

    private final Tape tape;
    private final Plan plan;
    private final Reader reader;
    private final Flow flow;
    private final Doors doors;
    private final Trail trail;
    private final Remedy remedy;
    private int refusal;
    private boolean stale;

    public RightsHouse() {
        tape = new Tape();
        plan = new Plan();
        reader = new Reader(tape);
        flow = new Flow(plan);
        doors = new Doors(plan, flow);
        trail = new Trail(plan, flow);
        remedy = new Remedy(plan, flow, doors);
        refusal = FINE;
        stale = true;
    }

    public int part(int grants) {
        if (!isGrants(grants)) {
            return refuse(BAD_NUMBER);
        }
        if (plan.size >= PARTS) {
            return refuse(NO_ROOM);
        }
        stale = true;
        return accept(plan.add(grants));
    }

    public boolean grant(int part, int grants) {
        if (!plan.has(part)) {
            return deny(NONE_SUCH);
        }
        if (!isGrants(grants)) {
            return deny(BAD_NUMBER);
        }
        plan.grants[part] = grants;
        return allow();
    }

    public int feed(int a, int b, int c, int d, int e) {
        if (tape.size + FED_BYTES > TAPE_BYTES) {
            return NONE;
        }
        tape.append(a);
        tape.append(b);
        tape.append(c);
        tape.append(d);
        tape.append(e);
        return tape.size;
    }

    public int lines(int part, int n) {
        if (!plan.has(part)) {
            return refuse(NONE_SUCH);
        }
        if (n < 0 || n > tape.size) {
            return refuse(BAD_NUMBER);
        }
        boolean good = reader.read(n, plan.size);
        tape.size = 0;
        if (!good) {
            return refuse(FAULTY);
        }
        plan.sheets[part].take(reader.draft);
        stale = true;
        return accept(plan.sheets[part].size);
    }

    public int fault() {
        return reader.wrongness;
    }

    public int where() {
        return refusal == FAULTY ? reader.place : NONE;
    }

    public int line(int part, int k, int what) {
        if (!plan.has(part) || !plan.sheets[part].has(k)) {
            return NONE;
        }
        Sheet sheet = plan.sheets[part];
        switch (what) {
            case 0: return sheet.kinds[k];
            case 1: return sheet.numbers[k];
            case 2: return sheet.firsts[k];
            case 3: return sheet.seconds[k];
            default: return NONE;
        }
    }

    public boolean meant(int secret, int door, boolean is) {
        if (!isRight(secret) || !isRight(door)) {
            return deny(BAD_NUMBER);
        }
        doors.tell(secret, door, is);
        return allow();
    }

    public int holds(int part, int name) {
        if (!plan.has(part) || name < 0 || name >= NAMES) {
            return NONE;
        }
        bringUpToDate();
        return flow.secretsAt(spot(part, name), plan.grants);
    }

    public int result(int part) {
        if (!plan.has(part)) {
            return NONE;
        }
        bringUpToDate();
        return flow.secretsAt(spot(part, RESULT_SPOT), plan.grants);
    }

    public int asked(int part) {
        if (!plan.has(part)) {
            return NONE;
        }
        bringUpToDate();
        return flow.isLive(part) ? 1 : 0;
    }

    public int door(int door) {
        if (!isRight(door)) {
            return NONE;
        }
        lookAtDoors();
        return doors.arriving[door];
    }

    public int leaks() {
        lookAtDoors();
        return doors.misuses() + doors.services();
    }

    public int misuse(boolean service) {
        lookAtDoors();
        return service ? doors.services() : doors.misuses();
    }

    public int wrong(int i) {
        lookAtDoors();
        return doors.misuseAt(i);
    }

    public int way(int secret, int door) {
        if (!isRight(secret) || !isRight(door)) {
            return refuse(BAD_NUMBER);
        }
        bringUpToDate();
        return accept(trail.find(secret, door));
    }

    public int step(int i) throws NoSuchElementException {
        if (i < 0 || i >= trail.size) {
            throw new NoSuchElementException();
        }
        return trail.steps[i];
    }

    public int needed(int part) {
        if (!plan.has(part)) {
            return NONE;
        }
        bringUpToDate();
        return flow.uses(part);
    }

    public int idle(int part) {
        if (!plan.has(part)) {
            return NONE;
        }
        bringUpToDate();
        return plan.grants[part] & ~flow.uses(part);
    }

    public int lacking(int part) {
        if (!plan.has(part)) {
            return NONE;
        }
        bringUpToDate();
        return flow.uses(part) & ~plan.grants[part];
    }

    public int helped(int part) {
        if (!plan.has(part)) {
            return NONE;
        }
        bringUpToDate();
        return flow.usesOfHelpers(part) & ~plan.grants[part];
    }

    public int trim() {
        bringUpToDate();
        int gone = 0;
        for (int part = 0; part < plan.size; part++) {
            gone += Integer.bitCount(plan.grants[part] & ~flow.uses(part));
            plan.grants[part] &= flow.uses(part);
        }
        return gone;
    }

    public int cure() {
        lookAtDoors();
        if (doors.misuses() == 0) {
            remedy.size = 0;
            return accept(0);
        }
        if (!remedy.gather()) {
            return refuse(TOO_MANY);
        }
        if (!remedy.search()) {
            return refuse(THERE_IS_NONE);
        }
        return accept(remedy.size);
    }

    public int cured(int i) {
        return i < 0 || i >= remedy.size ? NONE : remedy.taken[i];
    }

    public int without(int part, int right) {
        if (!plan.has(part)) {
            return refuse(NONE_SUCH);
        }
        if (!isRight(right)) {
            return refuse(BAD_NUMBER);
        }
        bringUpToDate();
        return accept(remedy.misusesWithTurned(part, right));
    }

    public int key() {
        lookAtDoors();
        int misuses = doors.misuses();
        if (misuses == 0) {
            return refuse(THERE_IS_NONE);
        }
        return accept(remedy.bestSingle(misuses));
    }

    public int count(int what) {
        switch (what) {
            case 0: return plan.size;
            case 1: return plan.allLines();
            case 2: return plan.allGrants();
            case 3: return doors.toldPairs();
            case 4: return tape.size;
            default: return NONE;
        }
    }

    public int trouble() {
        return refusal;
    }

    private int refuse(int number) {
        refusal = number;
        return NONE;
    }

    private int accept(int answer) {
        refusal = FINE;
        return answer;
    }

    private boolean deny(int number) {
        refusal = number;
        return false;
    }

    private boolean allow() {
        refusal = FINE;
        return true;
    }

    private void bringUpToDate() {
        if (stale) {
            flow.trace();
            stale = false;
        }
    }

    private void lookAtDoors() {
        bringUpToDate();
        doors.look(plan.grants);
    }

    private static boolean isGrants(int bits) {
        return bits >= 0 && bits <= ALL_RIGHTS;
    }

    private static boolean isRight(int number) {
        return number >= 0 && number < RIGHTS;
    }

    private static boolean hasBit(int bits, int bit) {
        return (bits >> bit & 1) == 1;
    }

    private static int spot(int part, int name) {
        return part * SPOTS + name;
    }

    /** Bytes that wait to be read as lines. */
    static final class Tape {
        final int[] bytes = new int[TAPE_BYTES];
        int size;

        void append(int four) {
            for (int shift = 24; shift >= 0 && size < TAPE_BYTES; shift -= 8) {
                bytes[size] = four >>> shift & 255;
                size++;
            }
        }
    }

    /** The lines of one part, a row for each of what a line tells. */
    static final class Sheet {
        final int[] kinds = new int[LINES];
        final int[] numbers = new int[LINES];
        final int[] firsts = new int[LINES];
        final int[] seconds = new int[LINES];
        final int[] sources = new int[LINES];
        int size;

        boolean has(int k) {
            return k >= 0 && k < size;
        }

        boolean add(int kind, int number, int first, int second, int from) {
            if (size >= LINES) {
                return false;
            }
            kinds[size] = kind;
            numbers[size] = number;
            firsts[size] = first;
            seconds[size] = second;
            sources[size] = from;
            size++;
            return true;
        }

        /** The parts that these lines ask, as bits. */
        int helpers() {
            int bits = 0;
            for (int k = 0; k < size; k++) {
                if (kinds[k] == ASK) {
                    bits |= 1 << numbers[k];
                }
            }
            return bits;
        }

        void take(Sheet other) {
            System.arraycopy(other.kinds, 0, kinds, 0, LINES);
            System.arraycopy(other.numbers, 0, numbers, 0, LINES);
            System.arraycopy(other.firsts, 0, firsts, 0, LINES);
            System.arraycopy(other.seconds, 0, seconds, 0, LINES);
            System.arraycopy(other.sources, 0, sources, 0, LINES);
            size = other.size;
        }
    }

    /** The parts: what each is granted, and its lines. */
    static final class Plan {
        final int[] grants = new int[PARTS];
        final Sheet[] sheets = new Sheet[PARTS];
        int size;

        Plan() {
            for (int part = 0; part < PARTS; part++) {
                sheets[part] = new Sheet();
            }
        }

        boolean has(int number) {
            return number >= 0 && number < size;
        }

        int add(int bits) {
            if (size >= PARTS) {
                return NONE;
            }
            grants[size] = bits;
            size++;
            return size - 1;
        }

        int allLines() {
            int sum = 0;
            for (int part = 0; part < size; part++) {
                sum += sheets[part].size;
            }
            return sum;
        }

        int allGrants() {
            int sum = 0;
            for (int part = 0; part < size; part++) {
                sum += Integer.bitCount(grants[part]);
            }
            return sum;
        }
    }

    /** Reads a text from the left, one token ahead, so that the first fault met is the one told. */
    static final class Reader {
        static final int AT_END = 0;
        static final int WORD = 1;
        static final int WHOLE = 2;
        static final int COMMA = 3;
        static final int SEMICOLON = 4;
        static final int NO_TOKEN = 5;
        static final int LONGEST_WORD = 8;
        static final int LONGEST_WHOLE = 2;

        final Sheet draft = new Sheet();
        final Tape source;
        int wrongness;
        int place;
        int end;
        int parts;
        int token;
        int from;
        int next;
        int number;
        int name;

        Reader(Tape tape) {
            source = tape;
        }

        boolean read(int n, int partCount) {
            draft.size = 0;
            wrongness = 0;
            place = NONE;
            end = n;
            parts = partCount;
            next = 0;
            advance();
            for (int count = 0; count <= LINES; count++) {
                if (!readLine()) {
                    return false;
                }
                if (token == AT_END) {
                    return true;
                }
                if (token != SEMICOLON) {
                    return fail(FORM);
                }
                advance();
            }
            return fail(MANY);
        }

        boolean readLine() {
            int kind = kindHere();
            if (kind == NONE) {
                return fail(FORM);
            }
            if (draft.size >= LINES) {
                return fail(MANY);
            }
            advance();
            switch (kind) {
                case GET: return takeWhole(RIGHTS) && takeWord("to") && takeName() && keep(GET);
                case LET: return readLet();
                case ASK: return readAsk();
                case PUT: return takeName() && takeWord("by") && takeWhole(RIGHTS) && keep(PUT);
                case WASH: return takeName() && takeWord("of") && takeWhole(RIGHTS) && keep(WASH);
                default: number = 0; return takeName() && keep(RESULT);
            }
        }

        boolean keep(int kind) {
            return draft.add(kind, number, name, NONE, 0);
        }

        boolean readLet() {
            if (!takeName() || !takeWord("from")) {
                return false;
            }
            int target = name;
            int second = NONE;
            int bits = 0;
            for (int count = 1; count <= SOURCES; count++) {
                if (!takeName()) {
                    return false;
                }
                bits |= 1 << name;
                second = count == 1 ? name : second;
                if (token != COMMA) {
                    return draft.add(LET, count, target, second, bits);
                }
                advance();
            }
            return isName() && fail(MANY);
        }

        boolean readAsk() {
            if (!takeWhole(parts) || !takeWord("with") || !takeName()) {
                return false;
            }
            int with = name;
            return takeWord("to") && takeName() && draft.add(ASK, number, with, name, 0);
        }

        boolean takeWhole(int bound) {
            if (token != WHOLE) {
                return fail(FORM);
            }
            number = 0;
            for (int i = from; i < next; i++) {
                number = number * 10 + source.bytes[i] - '0';
            }
            if (number >= bound) {
                return fail(NO_NUMBER);
            }
            advance();
            return true;
        }

        boolean takeName() {
            if (!isName()) {
                return false;
            }
            name = source.bytes[from] - 'a';
            advance();
            return true;
        }

        boolean isName() {
            if (token != WORD) {
                return fail(FORM);
            }
            if (next - from != 1 || source.bytes[from] - 'a' >= NAMES) {
                return fail(NO_NAME);
            }
            return true;
        }

        boolean takeWord(String word) {
            if (!isWord(word)) {
                return fail(FORM);
            }
            advance();
            return true;
        }

        int kindHere() {
            if (isWord("get")) {
                return GET;
            }
            if (isWord("let")) {
                return LET;
            }
            if (isWord("ask")) {
                return ASK;
            }
            if (isWord("put")) {
                return PUT;
            }
            if (isWord("wash")) {
                return WASH;
            }
            return isWord("result") ? RESULT : NONE;
        }

        boolean isWord(String word) {
            if (token != WORD || next - from != word.length()) {
                return false;
            }
            for (int i = 0; i < word.length(); i++) {
                if (source.bytes[from + i] != word.charAt(i)) {
                    return false;
                }
            }
            return true;
        }

        boolean fail(int fault) {
            wrongness = fault;
            place = from;
            return false;
        }

        void advance() {
            from = next;
            while (from < end && source.bytes[from] == ' ') {
                from++;
            }
            int kind = signAt(from);
            int longest = kind == WORD ? LONGEST_WORD : kind == WHOLE ? LONGEST_WHOLE : 1;
            next = kind == AT_END ? from : from + 1;
            while (longest > 1 && next < end && signAt(next) == kind) {
                next++;
            }
            token = next - from <= longest ? kind : NO_TOKEN;
        }

        /** The kind of token that a byte would stand in. */
        int signAt(int i) {
            if (i >= end) {
                return AT_END;
            }
            int sign = source.bytes[i];
            if (sign >= 'a' && sign <= 'z') {
                return WORD;
            }
            if (sign >= '0' && sign <= '9') {
                return WHOLE;
            }
            return sign == ',' ? COMMA : sign == ';' ? SEMICOLON : NO_TOKEN;
        }
    }

    /**
     * What the lines alone say, whatever is granted: who is asked, which rights are used, and where secrets
     * come from each part that gets them. Grants only open or shut the first and the last line of a row, so
     * trying other grants needs no new tracing.
     */
    static final class Flow {
        final Plan plan;
        final int[] below = new int[PARTS];
        final int[] gets = new int[PARTS];
        final int[] puts = new int[PARTS];
        final int[] washed = new int[PLACES];
        final int[] linkFrom = new int[LINKS];
        final int[] linkTo = new int[LINKS];
        final int[] linkStep = new int[LINKS];
        final int[][] came = new int[PARTS][PLACES];
        int linkCount;
        int live;

        Flow(Plan parts) {
            plan = parts;
        }

        boolean isLive(int part) {
            return hasBit(live, part);
        }

        int uses(int part) {
            return gets[part] | puts[part];
        }

        int usesOfHelpers(int part) {
            int bits = 0;
            for (int other = 0; other < plan.size && isLive(part); other++) {
                if (hasBit(below[part], other)) {
                    bits |= uses(other) & plan.grants[other];
                }
            }
            return bits;
        }

        /** Secrets that come to a place if the parts that get them have these grants. */
        int secretsAt(int place, int[] grants) {
            int bits = 0;
            for (int origin = 0; origin < plan.size; origin++) {
                bits |= came[origin][place] & grants[origin];
            }
            return bits;
        }

        void trace() {
            findLive();
            linkCount = 0;
            Arrays.fill(gets, 0);
            Arrays.fill(puts, 0);
            Arrays.fill(washed, 0);
            for (int part = 0; part < plan.size; part++) {
                int count = isLive(part) ? plan.sheets[part].size : 0;
                for (int k = 0; k < count; k++) {
                    note(part, k);
                }
            }
            for (int origin = 0; origin < plan.size; origin++) {
                spread(origin);
            }
        }

        void findLive() {
            for (int part = 0; part < PARTS; part++) {
                below[part] = plan.sheets[part].helpers();
            }
            for (int middle = 0; middle < PARTS; middle++) {
                for (int part = 0; part < PARTS; part++) {
                    if (hasBit(below[part], middle)) {
                        below[part] |= below[middle];
                    }
                }
            }
            live = plan.size == 0 ? 0 : 1 | below[0];
        }

        void note(int part, int k) {
            Sheet sheet = plan.sheets[part];
            int number = sheet.numbers[k];
            int first = spot(part, sheet.firsts[k]);
            int step = 100 * part + k;
            switch (sheet.kinds[k]) {
                case GET:
                    gets[part] |= 1 << number;
                    break;
                case LET:
                    noteLet(part, k);
                    break;
                case ASK:
                    link(first, spot(number, 0), step);
                    link(spot(number, RESULT_SPOT), spot(part, sheet.seconds[k]), step);
                    break;
                case PUT:
                    puts[part] |= 1 << number;
                    link(first, spot(part, EXITS + number), step);
                    break;
                case WASH:
                    washed[first] |= 1 << number;
                    break;
                default:
                    link(first, spot(part, RESULT_SPOT), step);
                    break;
            }
        }

        void noteLet(int part, int k) {
            Sheet sheet = plan.sheets[part];
            for (int name = 0; name < NAMES; name++) {
                if (hasBit(sheet.sources[k], name)) {
                    link(spot(part, name), spot(part, sheet.firsts[k]), 100 * part + k);
                }
            }
        }

        void link(int from, int to, int step) {
            if (linkCount < LINKS) {
                linkFrom[linkCount] = from;
                linkTo[linkCount] = to;
                linkStep[linkCount] = step;
                linkCount++;
            }
        }

        void spread(int origin) {
            int[] held = came[origin];
            Arrays.fill(held, 0);
            boolean moved = seed(origin, held);
            // Each round brings every secret at least one place on, so there can't be more rounds than places.
            for (int round = 0; round < PLACES && moved; round++) {
                moved = false;
                for (int i = 0; i < linkCount; i++) {
                    int to = linkTo[i];
                    int more = held[linkFrom[i]] & ~washed[to] & ~held[to];
                    held[to] |= more;
                    moved |= more != 0;
                }
            }
        }

        boolean seed(int origin, int[] held) {
            Sheet sheet = plan.sheets[origin];
            for (int k = 0; k < sheet.size && gets[origin] != 0; k++) {
                if (sheet.kinds[k] == GET) {
                    held[spot(origin, sheet.firsts[k])] |= 1 << sheet.numbers[k];
                }
            }
            return gets[origin] != 0;
        }
    }

    /** What comes to the doors, and what of it is meant. */
    static final class Doors {
        final Plan plan;
        final Flow flow;
        final int[] told = new int[RIGHTS];
        final int[] arriving = new int[RIGHTS];

        Doors(Plan parts, Flow lines) {
            plan = parts;
            flow = lines;
        }

        void tell(int secret, int number, boolean is) {
            int bit = 1 << secret;
            told[number] = is ? told[number] | bit : told[number] & ~bit;
        }

        void look(int[] grants) {
            Arrays.fill(arriving, 0);
            for (int part = 0; part < plan.size; part++) {
                int open = flow.puts[part] & grants[part];
                for (int number = 0; number < RIGHTS && open != 0; number++) {
                    if (hasBit(open, number)) {
                        arriving[number] |= flow.secretsAt(spot(part, EXITS + number), grants);
                    }
                }
            }
        }

        int misuses() {
            int sum = 0;
            for (int number = 0; number < RIGHTS; number++) {
                sum += Integer.bitCount(arriving[number] & ~told[number]);
            }
            return sum;
        }

        int services() {
            int sum = 0;
            for (int number = 0; number < RIGHTS; number++) {
                sum += Integer.bitCount(arriving[number] & told[number]);
            }
            return sum;
        }

        int misuseAt(int i) {
            int before = 0;
            for (int secret = 0; secret < RIGHTS; secret++) {
                for (int number = 0; number < RIGHTS; number++) {
                    if (hasBit(arriving[number] & ~told[number], secret)) {
                        if (before == i) {
                            return 100 * secret + number;
                        }
                        before++;
                    }
                }
            }
            return NONE;
        }

        int toldPairs() {
            int sum = 0;
            for (int number = 0; number < RIGHTS; number++) {
                sum += Integer.bitCount(told[number]);
            }
            return sum;
        }
    }

    /** The shortest row of lines by which a secret leaves. */
    static final class Trail {
        final Plan plan;
        final Flow flow;
        final int[] far = new int[PLACES];
        final int[] steps = new int[STEPS];
        int size;

        Trail(Plan parts, Flow lines) {
            plan = parts;
            flow = lines;
        }

        int find(int secret, int exit) {
            measure(secret, exit);
            int start = bestGet(secret);
            if (start == NONE) {
                return NOTHING;
            }
            walk(start, secret);
            return size;
        }

        /** How many lines it is from each place to the door, from the door backwards. */
        void measure(int secret, int exit) {
            Arrays.fill(far, FAR);
            for (int part = 0; part < plan.size; part++) {
                if (hasBit(plan.grants[part], exit)) {
                    far[spot(part, EXITS + exit)] = 0;
                }
            }
            boolean nearer = true;
            for (int round = 0; round < PLACES && nearer; round++) {
                nearer = false;
                for (int i = 0; i < flow.linkCount; i++) {
                    int from = flow.linkFrom[i];
                    int through = farThrough(i, secret);
                    nearer |= through < far[from];
                    far[from] = Math.min(far[from], through);
                }
            }
        }

        int farThrough(int i, int secret) {
            int to = flow.linkTo[i];
            return hasBit(flow.washed[to], secret) ? FAR : far[to] + 1;
        }

        /** The first of the gets that are nearest to the door, as a step; NONE if none comes there. */
        int bestGet(int secret) {
            int best = NONE;
            int nearest = FAR;
            for (int part = 0; part < plan.size; part++) {
                boolean gets = hasBit(flow.gets[part] & plan.grants[part], secret);
                Sheet sheet = plan.sheets[part];
                for (int k = 0; k < sheet.size && gets; k++) {
                    int place = spot(part, sheet.firsts[k]);
                    if (sheet.kinds[k] == GET && sheet.numbers[k] == secret && far[place] < nearest) {
                        nearest = far[place];
                        best = 100 * part + k;
                    }
                }
            }
            return best;
        }

        void walk(int start, int secret) {
            size = 0;
            append(start);
            int place = spot(start / 100, plan.sheets[start / 100].firsts[start % 100]);
            for (int left = far[place]; left > 0; left--) {
                int link = firstLink(place, secret);
                if (link == NONE) {
                    return;
                }
                append(flow.linkStep[link]);
                place = flow.linkTo[link];
            }
        }

        void append(int taken) {
            if (size < STEPS) {
                steps[size] = taken;
                size++;
            }
        }

        /** Links stand in the order of their lines, so the first that leads nearer is the least one. */
        int firstLink(int place, int secret) {
            for (int i = 0; i < flow.linkCount; i++) {
                if (flow.linkFrom[i] == place && farThrough(i, secret) == far[place]) {
                    return i;
                }
            }
            return NONE;
        }
    }

    /** Tries what would be if other rights were granted. */
    static final class Remedy {
        final Plan plan;
        final Flow flow;
        final Doors doors;
        final int[] trial = new int[PARTS];
        final int[] wanted = new int[RIGHTS];
        final int[] candidates = new int[CURABLE];
        final int[] taken = new int[CURABLE];
        int candidateCount;
        int size;

        Remedy(Plan parts, Flow lines, Doors exits) {
            plan = parts;
            flow = lines;
            doors = exits;
        }

        int misusesWithTurned(int part, int right) {
            startTrial();
            trial[part] ^= 1 << right;
            doors.look(trial);
            return doors.misuses();
        }

        void startTrial() {
            System.arraycopy(plan.grants, 0, trial, 0, PARTS);
        }

        /** The single grant whose loss ends most of the misuses that there are; NOTHING if none ends one. */
        int bestSingle(int misuses) {
            int fewest = misuses;
            int best = NOTHING;
            for (int part = 0; part < plan.size; part++) {
                int used = plan.grants[part] & flow.uses(part);
                for (int right = 0; right < RIGHTS && used != 0; right++) {
                    int left = hasBit(used, right) ? misusesWithTurned(part, right) : misuses;
                    if (left < fewest) {
                        fewest = left;
                        best = 100 * part + right;
                    }
                }
            }
            return best;
        }

        /** Lists the grants that are needed; false if they are too many to try. */
        boolean gather() {
            candidateCount = 0;
            for (int part = 0; part < plan.size; part++) {
                int used = plan.grants[part] & flow.uses(part);
                for (int right = 0; right < RIGHTS; right++) {
                    if (hasBit(used, right)) {
                        if (candidateCount >= CURABLE) {
                            return false;
                        }
                        candidates[candidateCount] = 100 * part + right;
                        candidateCount++;
                    }
                }
            }
            return true;
        }

        /** Expects the doors as they are now; leaves the former answer where no choice cures. */
        boolean search() {
            for (int number = 0; number < RIGHTS; number++) {
                wanted[number] = doors.arriving[number] & doors.told[number];
            }
            for (int count = 1; count <= candidateCount; count++) {
                // The first candidate is the highest bit: of as many, the greatest choice has the least first.
                for (int choice = (1 << candidateCount) - 1; choice > 0; choice--) {
                    if (Integer.bitCount(choice) == count && isCure(choice)) {
                        keep(choice);
                        return true;
                    }
                }
            }
            return false;
        }

        boolean isChosen(int choice, int i) {
            return hasBit(choice, candidateCount - 1 - i);
        }

        boolean isCure(int choice) {
            startTrial();
            for (int i = 0; i < candidateCount; i++) {
                if (isChosen(choice, i)) {
                    trial[candidates[i] / 100] &= ~(1 << candidates[i] % 100);
                }
            }
            doors.look(trial);
            for (int number = 0; number < RIGHTS; number++) {
                if (doors.arriving[number] != wanted[number]) {
                    return false;
                }
            }
            return true;
        }

        void keep(int choice) {
            size = 0;
            for (int i = 0; i < candidateCount; i++) {
                if (isChosen(choice, i)) {
                    taken[size] = candidates[i];
                    size++;
                }
            }
        }
    }
}
