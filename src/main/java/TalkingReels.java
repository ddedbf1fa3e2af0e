/** Halls and makers in the years in which pictures began to speak: ../shared/DOC.md tells every rule. */
public final class TalkingReels {

    /** None. */
    public static final int NONE = -1;

    private static final int FIRMS = 3;
    private static final int TOWNS = 4;
    private static final int TONGUES = 5;
    private static final int TASTES = 4;
    private static final int EVERY_TONGUE = 31;
    private static final int MOST_PICTURES = 12;
    private static final int MOST_PRINTS = 30;
    private static final int MOST_EVENTS = 150;
    private static final int MOST_HALLS = 16;
    private static final int MOST_SETS = 20;
    private static final int MOST_CROWDS = 16;
    private static final int MOST_VERSIONS = 9;
    private static final int MOST_PERSONS = 14;
    private static final int MOST_WIRED = 9;
    private static final int MOST_CLAUSES = 9;
    private static final int MOST_LINES = 20;
    private static final int MOST_OPEN = 8;
    private static final int PARTIES = 20;
    private static final int LAST_WEEK = 199;

    private static final int SILENT = 5;
    private static final int DISC = 0;
    private static final int NO_TRACK = 3;
    private static final int WORN_OUT = 12;
    private static final int NO_LEAD = -9999;
    private static final int NO_WORTH = -99;

    private static final int STRAY = 1;
    private static final int PART_BY_ZERO = 2;
    private static final int BEYOND = 3;

    // A token's kind: its own sign, one of the first three here, or FIRST_WORD and a keyword's place among KEYWORDS.
    private static final int END = 0;
    private static final int NUMBER = 1;
    private static final int UNKNOWN = 2;
    private static final int FIRST_WORD = 256;
    private static final int BAR = 256;
    private static final int FEE = 257;
    private static final int KEEP = 258;
    private static final int WHEN = 259;
    private static final int OR = 260;
    private static final int AND = 261;
    private static final int NOT = 262;
    private static final int MAKER = 263;
    private static final int WEEK = 272;
    private static final int LONGEST_WORD = 6;
    private static final int WORDS = 17;
    private static final String KEYWORDS =
        "bar   fee   keep  when  or    and   not   maker track tongueframeswear  firm  seats band  price week  ";
    private static final String SIGNS = ";+-*/()<=>";

    // In a line's code a NUMBER stands as itself and this.
    private static final int NUMBERS = 1000;

    private final Reels reels;
    private final Houses houses;
    private final Tape tape;
    private final Parser parser;
    private final Firms firms;
    private final Crowds crowds;
    private final Studio studio;
    private final Wiring wiring;
    private final Debts debts;
    private final Terms terms;
    private int now;

    public TalkingReels() {
        reels = new Reels();
        houses = new Houses();
        tape = new Tape();
        parser = new Parser(tape);
        firms = new Firms(reels, houses);
        crowds = new Crowds(reels, houses, firms);
        studio = new Studio();
        wiring = new Wiring(houses);
        debts = new Debts(houses);
        terms = new Terms();
        now = 0;
    }

    public int picture(int maker, int tongue, int taste, int track, int frames) {
        return reels.addPicture(maker, tongue, taste, track, frames);
    }

    public int print(int picture) {
        return reels.addPrint(picture);
    }

    public int event(int print, int kind, int frame, int n) {
        return reels.tell(print, kind, frame, n, now);
    }

    public int lead(int print, int frame, int known) {
        if (!within(known, 0, now) || !reels.hasFrame(print, frame)) {
            return NO_LEAD;
        }
        return reels.leadAt(print, frame, known);
    }

    public int off(int print, int known) {
        if (!within(known, 0, now) || !reels.hasPrint(print)) {
            return NONE;
        }
        return reels.firstOff(print, known);
    }

    public int hall(int town, int seats, int price, int band) {
        return houses.addHall(town, seats, price, band);
    }

    public boolean asks(int hall, int price, int band) {
        return houses.demand(hall, price, band);
    }

    public int set(int firm, int plays, int hire) {
        return houses.addSet(firm, plays, hire);
    }

    public boolean hire(int set, int hall) {
        return houses.hasSet(set) && houses.goesTo(hall)
            && Houses.move(set, hall, houses.hallOfSet, houses.setIn);
    }

    public boolean book(int print, int hall) {
        return reels.hasPrint(print) && houses.goesTo(hall)
            && Houses.move(print, hall, reels.hallOfPrint, houses.printIn);
    }

    public int feed(int a, int b, int c, int d, int e) {
        return tape.append(a, b, c, d, e);
    }

    public boolean end(int n) {
        return tape.cut(n);
    }

    public int rules(int firm) {
        int lines = NONE;
        parser.forget();
        if (within(firm, 0, FIRMS - 1) && parser.parse()) {
            parser.draft = firms.adopt(firm, parser.draft);
            lines = firms.linesOf(firm);
        }
        tape.cut(0);
        return lines;
    }

    public int fault(int what) {
        if (what == 0) {
            return parser.fault;
        }
        return what == 1 ? parser.faultPlace : NONE;
    }

    public int runs(int print, int hall, int what) {
        if (!reels.hasPrint(print) || !houses.hasHall(hall)) {
            return NONE;
        }
        firms.judge(print, hall, now);
        switch (what) {
            case 0: return firms.reason(print, hall);
            case 1: return firms.barFirm;
            case 2: return firms.barLine;
            case 3: return firms.fee;
            case 4: return firms.keep;
            default: return NONE;
        }
    }

    public int crowd(int town, int tongue, int taste, int many, int purse) {
        return crowds.addCrowd(town, tongue, taste, many, purse);
    }

    public int worth(int crowd, int hall) {
        if (!crowds.hasCrowd(crowd) || !houses.hasHall(hall)) {
            return NO_WORTH;
        }
        crowds.inspect(hall, now);
        return crowds.worthOf(crowd, hall);
    }

    public int heard(int crowd, int picture) {
        if (!crowds.hasCrowd(crowd) || !reels.hasPicture(picture)) {
            return NO_WORTH;
        }
        return crowds.heard[crowd][picture];
    }

    public int weeks(int n) {
        if (!within(n, 1, 20) || now + n > LAST_WEEK) {
            return NONE;
        }
        for (int i = 0; i < n; i++) {
            crowds.pass(now);
            now++;
        }
        return now;
    }

    public long of(int hall, int what) {
        return houses.tell(hall, what);
    }

    public int at(int print, int what) {
        return reels.tellOf(print, what);
    }

    public int version(int nights) {
        return studio.addVersion(nights);
    }

    public boolean change(int a, int b, int nights) {
        return studio.link(a, b, nights);
    }

    public int stage(int set, int what) {
        return studio.order(set, what);
    }

    public int person(int tongues, int voice) {
        return studio.addPerson(tongues, voice);
    }

    public int faces(int tongues, int voice, int what) {
        if (!within(what, 0, 2) || !studio.cast(tongues, voice)) {
            return NONE;
        }
        if (what == 0) {
            return studio.fewest;
        }
        return what == 1 ? studio.leastSet : studio.setsOfSoMany;
    }

    public boolean needs(int hall, int weeks, int loss) {
        return wiring.demand(hall, weeks, loss);
    }

    public int wire(int set, int what) {
        return wiring.order(set, what);
    }

    public boolean owe(int a, int b, int v) {
        return debts.lend(a, b, v);
    }

    public boolean purse(int party, int v) {
        return debts.fill(party, v);
    }

    public long clear(int fall, int party, int what) {
        if (!within(fall, 0, 100) || !within(party, 0, PARTIES - 1) || !within(what, 0, 3)) {
            return NONE;
        }
        debts.settle(fall);
        switch (what) {
            case 0: return debts.pays[party];
            case 1: return debts.comes[party];
            case 2: return debts.pays[party] < debts.owesInAll[party] ? 1 : 0;
            default: return debts.rounds;
        }
    }

    public int clause(int a, int b, int c) {
        return terms.addClause(a, b, c);
    }

    public boolean stand(int firm, int v) {
        return terms.insist(firm, v);
    }

    public int pool(int what) {
        terms.bargain();
        switch (what) {
            case 0: return terms.pool;
            case 1: return terms.poolWorth;
            case 2: return terms.shutOut;
            case 10:
            case 11:
            case 12: return terms.pool == NONE ? 0 : terms.worthTo(what - 10, terms.pool);
            default: return NONE;
        }
    }

    public long look(int what) {
        switch (what) {
            case 0: return now;
            case 1: return reels.pictures;
            case 2: return reels.prints;
            case 3: return reels.events;
            case 4: return houses.halls;
            case 5: return houses.sets;
            case 6: return crowds.crowds;
            case 7: return houses.lookersInAll();
            case 8: return houses.players();
            case 9: return reels.wornOut();
            case 10: return firms.linesInAll();
            default: return NONE;
        }
    }

    private static boolean within(int v, int least, int most) {
        return v >= least && v <= most;
    }

    private static boolean has(int set, int number) {
        return (set >> number & 1) == 1;
    }

    /** The PICTURES, their PRINTS and what befell these. */
    private static final class Reels {
        private static final int TEAR = 0;
        private static final int BLACK = 1;
        private static final int SKIP = 2;
        private static final int START = 3;

        final int[] maker = new int[MOST_PICTURES];
        final int[] tongue = new int[MOST_PICTURES];
        final int[] taste = new int[MOST_PICTURES];
        final int[] track = new int[MOST_PICTURES];
        final int[] frames = new int[MOST_PICTURES];
        int pictures;
        final int[] pictureOf = new int[MOST_PRINTS];
        final int[] wear = new int[MOST_PRINTS];
        final int[] hallOfPrint = new int[MOST_PRINTS];
        int prints;
        private final int[] toldOf = new int[MOST_EVENTS];
        private final int[] kindOf = new int[MOST_EVENTS];
        private final int[] frameOf = new int[MOST_EVENTS];
        private final int[] amountOf = new int[MOST_EVENTS];
        private final int[] weekOf = new int[MOST_EVENTS];
        int events;

        int addPicture(int itsMaker, int itsTongue, int itsTaste, int itsTrack, int itsFrames) {
            boolean fits = within(itsMaker, 0, FIRMS - 1) && within(itsTongue, 0, SILENT)
                && within(itsTaste, 0, TASTES - 1) && within(itsTrack, 0, NO_TRACK)
                && within(itsFrames, 100, 9999) && (itsTongue == SILENT) == (itsTrack == NO_TRACK);
            if (!fits || pictures >= MOST_PICTURES) {
                return NONE;
            }
            maker[pictures] = itsMaker;
            tongue[pictures] = itsTongue;
            taste[pictures] = itsTaste;
            track[pictures] = itsTrack;
            frames[pictures] = itsFrames;
            pictures++;
            return pictures - 1;
        }

        int addPrint(int picture) {
            if (!hasPicture(picture) || prints >= MOST_PRINTS) {
                return NONE;
            }
            pictureOf[prints] = picture;
            wear[prints] = 0;
            hallOfPrint[prints] = NONE;
            prints++;
            return prints - 1;
        }

        int tell(int print, int kind, int frame, int n, int now) {
            if (!hasFrame(print, frame) || !canBe(kind, frame, n) || events >= MOST_EVENTS) {
                return NONE;
            }
            toldOf[events] = print;
            kindOf[events] = kind;
            frameOf[events] = frame;
            amountOf[events] = n;
            weekOf[events] = now;
            events++;
            return events;
        }

        private static boolean canBe(int kind, int frame, int n) {
            switch (kind) {
                case TEAR:
                case BLACK: return within(n, 1, 99);
                case SKIP: return within(n, -9, 9) && n != 0;
                case START: return within(n, -99, 99) && frame == 0;
                default: return false;
            }
        }

        boolean hasPicture(int picture) {
            return picture >= 0 && picture < pictures;
        }

        boolean hasPrint(int print) {
            return print >= 0 && print < prints;
        }

        boolean hasFrame(int print, int frame) {
            return hasPrint(print) && frame >= 0 && frame < frames[pictureOf[print]];
        }

        int leadAt(int print, int frame, int known) {
            int lead = 0;
            int start = 0;
            if (track[pictureOf[print]] != DISC) {
                return 0;
            }
            for (int i = 0; i < events; i++) {
                if (toldOf[i] != print || weekOf[i] > known || frameOf[i] > frame) {
                    continue;
                }
                switch (kindOf[i]) {
                    case TEAR: lead -= amountOf[i]; break;
                    case BLACK: lead += amountOf[i]; break;
                    case SKIP: lead += 33 * amountOf[i]; break;
                    default: start = amountOf[i]; break;
                }
            }
            return lead + start;
        }

        int firstOff(int print, int known) {
            if (track[pictureOf[print]] != DISC) {
                return NONE;
            }
            // The LEAD changes at FRAMES of EVENTS alone, so no other FRAME can be the first.
            int first = NONE;
            for (int i = 0; i < events; i++) {
                boolean sooner = first == NONE || frameOf[i] < first;
                if (toldOf[i] == print && weekOf[i] <= known && sooner && isOff(print, frameOf[i], known)) {
                    first = frameOf[i];
                }
            }
            return first;
        }

        private boolean isOff(int print, int frame, int known) {
            return !within(leadAt(print, frame, known), -3, 3);
        }

        int tellOf(int print, int what) {
            if (!hasPrint(print)) {
                return NONE;
            }
            switch (what) {
                case 0: return pictureOf[print];
                case 1: return wear[print];
                case 2: return hallOfPrint[print];
                default: return NONE;
            }
        }

        int wornOut() {
            int many = 0;
            for (int i = 0; i < prints; i++) {
                if (wear[i] == WORN_OUT) {
                    many++;
                }
            }
            return many;
        }
    }

    /** The HALLS, and the SETS that they hire. */
    private static final class Houses {
        final int[] town = new int[MOST_HALLS];
        final int[] seats = new int[MOST_HALLS];
        final int[] price = new int[MOST_HALLS];
        final int[] band = new int[MOST_HALLS];
        final long[] coin = new long[MOST_HALLS];
        final int[] lookers = new int[MOST_HALLS];
        final int[] took = new int[MOST_HALLS];
        final int[] allLookers = new int[MOST_HALLS];
        final int[] setIn = new int[MOST_HALLS];
        final int[] printIn = new int[MOST_HALLS];
        int halls;
        final int[] firm = new int[MOST_SETS];
        final int[] plays = new int[MOST_SETS];
        final int[] hire = new int[MOST_SETS];
        final int[] hallOfSet = new int[MOST_SETS];
        int sets;

        int addHall(int itsTown, int itsSeats, int itsPrice, int itsBand) {
            boolean fits = within(itsTown, 0, TOWNS - 1) && within(itsSeats, 10, 999) && canAsk(itsPrice, itsBand);
            if (!fits || halls >= MOST_HALLS) {
                return NONE;
            }
            town[halls] = itsTown;
            seats[halls] = itsSeats;
            price[halls] = itsPrice;
            band[halls] = itsBand;
            setIn[halls] = NONE;
            printIn[halls] = NONE;
            halls++;
            return halls - 1;
        }

        private static boolean canAsk(int itsPrice, int itsBand) {
            return within(itsPrice, 1, 99) && within(itsBand, 0, 40);
        }

        boolean demand(int hall, int itsPrice, int itsBand) {
            if (!hasHall(hall) || !canAsk(itsPrice, itsBand)) {
                return false;
            }
            price[hall] = itsPrice;
            band[hall] = itsBand;
            return true;
        }

        int addSet(int itsFirm, int itsPlays, int itsHire) {
            boolean fits = within(itsFirm, 0, FIRMS - 1) && within(itsPlays, 1, 7) && within(itsHire, 0, 99);
            if (!fits || sets >= MOST_SETS) {
                return NONE;
            }
            firm[sets] = itsFirm;
            plays[sets] = itsPlays;
            hire[sets] = itsHire;
            hallOfSet[sets] = NONE;
            sets++;
            return sets - 1;
        }

        boolean hasHall(int hall) {
            return hall >= 0 && hall < halls;
        }

        boolean hasSet(int set) {
            return set >= 0 && set < sets;
        }

        boolean goesTo(int hall) {
            return hall == NONE || hasHall(hall);
        }

        /** Takes a thing to a HALL (NONE: to none), unless it or another one is there. */
        static boolean move(int thing, int hall, int[] hallOf, int[] thingIn) {
            int before = hallOf[thing];
            if (before == hall || (hall != NONE && thingIn[hall] != NONE)) {
                return false;
            }
            if (before != NONE) {
                thingIn[before] = NONE;
            }
            if (hall != NONE) {
                thingIn[hall] = thing;
            }
            hallOf[thing] = hall;
            return true;
        }

        boolean canPlay(int hall, int track) {
            int set = setIn[hall];
            return hasSet(set) && has(plays[set], track);
        }

        int places(int hall) {
            return 7 * seats[hall] - lookers[hall];
        }

        long tell(int hall, int what) {
            if (!hasHall(hall)) {
                return NONE;
            }
            switch (what) {
                case 0: return coin[hall];
                case 1: return lookers[hall];
                case 2: return took[hall];
                case 3: return setIn[hall];
                case 4: return printIn[hall];
                case 5: return allLookers[hall];
                default: return NONE;
            }
        }

        int lookersInAll() {
            int all = 0;
            for (int i = 0; i < halls; i++) {
                all += allLookers[i];
            }
            return all;
        }

        int players() {
            int all = 0;
            for (int i = 0; i < halls; i++) {
                all += band[i];
            }
            return all;
        }
    }

    /** The TAPE, and the TOKENS that stand on it. */
    private static final class Tape {
        private static final int MOST = 600;

        private final int[] text = new int[MOST];
        int size;
        final int[] kind = new int[MOST];
        final int[] value = new int[MOST];
        final int[] place = new int[MOST];
        int tokens;

        int append(int a, int b, int c, int d, int e) {
            if (size + 20 > MOST) {
                return NONE;
            }
            appendBytes(a);
            appendBytes(b);
            appendBytes(c);
            appendBytes(d);
            appendBytes(e);
            return size;
        }

        private void appendBytes(int four) {
            for (int shift = 24; shift >= 0; shift -= 8) {
                if (size < MOST) {
                    text[size] = four >>> shift & 255;
                    size++;
                }
            }
        }

        boolean cut(int n) {
            if (!within(n, 0, size)) {
                return false;
            }
            size = n;
            return true;
        }

        /** Finds the TOKENS. */
        void scan() {
            tokens = 0;
            for (int i = 0; i < size; i++) {
                boolean blank = text[i] == ' ' || text[i] == '\n';
                boolean inside = i > 0 && standTogether(text[i - 1], text[i]);
                if (!blank && !inside) {
                    addToken(i);
                }
            }
        }

        private static boolean isLetter(int sign) {
            return within(sign, 'a', 'z') || within(sign, 'A', 'Z');
        }

        private static boolean isDigit(int sign) {
            return within(sign, '0', '9');
        }

        private static boolean standTogether(int sign, int next) {
            return (isLetter(sign) && isLetter(next)) || (isDigit(sign) && isDigit(next));
        }

        private void addToken(int from) {
            int sign = text[from];
            int to = from + 1;
            while (to < size && standTogether(sign, text[to])) {
                to++;
            }
            kind[tokens] = UNKNOWN;
            value[tokens] = 0;
            place[tokens] = from;
            if (isLetter(sign)) {
                kind[tokens] = keyword(from, to - from);
            } else if (isDigit(sign)) {
                addNumber(from, to);
            } else if (SIGNS.indexOf((char) sign) >= 0) {
                kind[tokens] = sign;
            }
            tokens++;
        }

        private void addNumber(int from, int to) {
            if (to - from > 4) {
                return;
            }
            kind[tokens] = NUMBER;
            for (int i = from; i < to; i++) {
                value[tokens] = value[tokens] * 10 + text[i] - '0';
            }
        }

        private int keyword(int from, int length) {
            for (int word = 0; word < WORDS; word++) {
                if (length <= LONGEST_WORD && isWord(word, from, length)) {
                    return FIRST_WORD + word;
                }
            }
            return UNKNOWN;
        }

        private boolean isWord(int word, int from, int length) {
            for (int i = 0; i < LONGEST_WORD; i++) {
                int sign = i < length ? text[from + i] : ' ';
                if (KEYWORDS.charAt(word * LONGEST_WORD + i) != sign) {
                    return false;
                }
            }
            return true;
        }
    }

    /** LINES of RULES as code for a stack: a line leaves its value (0 for a bar) and above it whether it is so. */
    private static final class Script {
        private static final int MOST_CODE = 640;
        private static final int MOST_STACK = 64;

        private final int[] code = new int[MOST_CODE];
        private int size;
        final int[] kind = new int[MOST_LINES];
        private final int[] start = new int[MOST_LINES];
        int lines;
        private final int[] stack = new int[MOST_STACK];

        void empty() {
            size = 0;
            lines = 0;
        }

        void begin(int itsKind) {
            if (lines < MOST_LINES) {
                kind[lines] = itsKind;
                start[lines] = size;
                lines++;
            }
        }

        void add(int op) {
            if (size < MOST_CODE) {
                code[size] = op;
                size++;
            }
        }

        /** Works a line out: whether it is so. Its value is there behind this. */
        boolean isSo(int line, int[] facts) {
            int to = line + 1 < lines ? start[line + 1] : size;
            int high = 0;
            for (int i = start[line]; i < to; i++) {
                int op = code[i];
                if (op >= MAKER && high < MOST_STACK) {
                    stack[high] = op >= NUMBERS ? op - NUMBERS : facts[op - MAKER];
                    high++;
                } else if (op == NOT && high > 0) {
                    stack[high - 1] = 1 - stack[high - 1];
                } else if (high > 1) {
                    high--;
                    stack[high - 1] = join(op, stack[high - 1], stack[high]);
                }
            }
            return stack[1] != 0;
        }

        int value() {
            return stack[0];
        }

        private static int join(int op, int a, int b) {
            switch (op) {
                case '+': return a + b;
                case '-': return a - b;
                case '*': return a * b;
                case '/': return b == 0 ? 0 : a / b;
                case '<': return a < b ? 1 : 0;
                case '=': return a == b ? 1 : 0;
                case '>': return a > b ? 1 : 0;
                case AND: return a & b;
                default: return a | b;
            }
        }
    }

    /** Reads the TAPE as RULES, up to the first FAULT. Each reader answers false behind a FAULT. */
    private static final class Parser {
        private final Tape tape;
        private int at;
        Script draft;
        int fault;
        int faultPlace;

        Parser(Tape tape) {
            this.tape = tape;
            draft = new Script();
            fault = 0;
            faultPlace = NONE;
        }

        void forget() {
            fault = 0;
            faultPlace = NONE;
        }

        boolean parse() {
            boolean fine = true;
            tape.scan();
            draft.empty();
            at = 0;
            for (int i = 0; i <= MOST_LINES && fine && sign() != END; i++) {
                fine = line();
            }
            return fine;
        }

        private int sign() {
            return at < tape.tokens ? tape.kind[at] : END;
        }

        private boolean refuse(int itsFault) {
            fault = itsFault;
            faultPlace = at < tape.tokens ? tape.place[at] : tape.size;
            return false;
        }

        private boolean take(int sign) {
            if (sign() != sign) {
                return refuse(STRAY);
            }
            at++;
            return true;
        }

        private boolean line() {
            int head = sign();
            if (!within(head, BAR, KEEP)) {
                return refuse(STRAY);
            }
            if (draft.lines >= MOST_LINES) {
                return refuse(BEYOND);
            }
            draft.begin(head);
            at++;
            if (head == BAR) {
                draft.add(NUMBERS);
                return condition(0) && take(';');
            }
            if (!expression()) {
                return false;
            }
            if (sign() != WHEN) {
                draft.add(NUMBERS + 1);
                return take(';');
            }
            at++;
            return condition(0) && take(';');
        }

        /** B; open: how many ( and not are open around it. */
        private boolean condition(int open) {
            boolean and = false;
            boolean or = false;
            for (int left = tape.tokens; left > 0; left--) {
                if (!single(open)) {
                    return false;
                }
                if (and) {
                    draft.add(AND);
                }
                and = sign() == AND;
                if (!and) {
                    if (or) {
                        draft.add(OR);
                    }
                    or = sign() == OR;
                    if (!or) {
                        return true;
                    }
                }
                at++;
            }
            return refuse(STRAY);
        }

        /** C. */
        private boolean single(int open) {
            int inside = open;
            for (int left = MOST_OPEN - open; left > 0 && sign() == NOT; left--) {
                inside++;
                at++;
            }
            if (sign() == NOT || (sign() == '(' && inside >= MOST_OPEN)) {
                return refuse(BEYOND);
            }
            if (sign() == '(') {
                at++;
                if (!condition(inside + 1) || !take(')')) {
                    return false;
                }
            } else {
                if (!expression()) {
                    return false;
                }
                int comparison = sign();
                if (comparison != '<' && comparison != '=' && comparison != '>') {
                    return refuse(STRAY);
                }
                at++;
                if (!expression()) {
                    return false;
                }
                draft.add(comparison);
            }
            for (int i = open; i < inside; i++) {
                draft.add(NOT);
            }
            return true;
        }

        /** E. */
        private boolean expression() {
            int product = 0;
            int sum = 0;
            for (int left = tape.tokens; left > 0; left--) {
                if (!operand(product == '/')) {
                    return false;
                }
                if (product != 0) {
                    draft.add(product);
                }
                product = sign() == '*' || sign() == '/' ? sign() : 0;
                if (product == 0) {
                    if (sum != 0) {
                        draft.add(sum);
                    }
                    sum = sign() == '+' || sign() == '-' ? sign() : 0;
                    if (sum == 0) {
                        return true;
                    }
                }
                at++;
            }
            return refuse(STRAY);
        }

        private boolean operand(boolean part) {
            int sign = sign();
            if (sign == NUMBER) {
                int value = tape.value[at];
                if (part && value == 0) {
                    return refuse(PART_BY_ZERO);
                }
                draft.add(NUMBERS + value);
            } else if (part || !within(sign, MAKER, WEEK)) {
                return refuse(STRAY);
            } else {
                draft.add(sign);
            }
            at++;
            return true;
        }
    }

    /** The RULES of all FIRMS, and what they say of a PRINT in a HALL. */
    private static final class Firms {
        private static final int MOST_FEE = 99999;
        private static final int MOST_KEEP = 40;

        private final Reels reels;
        private final Houses houses;
        private final Script[] scripts = new Script[FIRMS];
        private final int[] facts = new int[WEEK - MAKER + 1];
        int barFirm;
        int barLine;
        int fee;
        int keep;

        Firms(Reels reels, Houses houses) {
            this.reels = reels;
            this.houses = houses;
            for (int i = 0; i < FIRMS; i++) {
                scripts[i] = new Script();
            }
        }

        /** Answers the FIRM's script of before, which is free then. */
        Script adopt(int firm, Script script) {
            Script before = scripts[firm];
            scripts[firm] = script;
            return before;
        }

        int linesOf(int firm) {
            return scripts[firm].lines;
        }

        int linesInAll() {
            int all = 0;
            for (int i = 0; i < FIRMS; i++) {
                all += scripts[i].lines;
            }
            return all;
        }

        /** Finds what bars a PRINT in a HALL, its FEE and KEEP. */
        void judge(int print, int hall, int now) {
            gather(print, hall, now);
            barFirm = NONE;
            barLine = NONE;
            fee = 0;
            keep = 0;
            for (int i = 0; i < FIRMS; i++) {
                fee += Math.min(ask(i), MOST_FEE);
            }
            keep = Math.min(keep, MOST_KEEP);
        }

        /** The facts stand as their keywords do, from maker on. */
        private void gather(int print, int hall, int now) {
            int picture = reels.pictureOf[print];
            int set = houses.setIn[hall];
            facts[0] = reels.maker[picture];
            facts[1] = reels.track[picture];
            facts[2] = reels.tongue[picture];
            facts[3] = reels.frames[picture];
            facts[4] = reels.wear[print];
            facts[5] = houses.hasSet(set) ? houses.firm[set] : FIRMS;
            facts[6] = houses.seats[hall];
            facts[7] = houses.band[hall];
            facts[8] = houses.price[hall];
            facts[9] = now;
        }

        /** Asks one FIRM: its FEE. */
        private int ask(int firm) {
            Script script = scripts[firm];
            int most = 0;
            for (int i = 0; i < script.lines; i++) {
                if (!script.isSo(i, facts)) {
                    continue;
                }
                switch (script.kind[i]) {
                    case FEE: most = Math.max(most, script.value()); break;
                    case KEEP: keep = Math.max(keep, script.value()); break;
                    default: bar(firm, i); break;
                }
            }
            return most;
        }

        private void bar(int firm, int line) {
            if (barFirm == NONE) {
                barFirm = firm;
                barLine = line;
            }
        }

        /** Why a PRINT, judged in a HALL just before, does not RUN there. */
        int reason(int print, int hall) {
            int track = reels.track[reels.pictureOf[print]];
            if (reels.wear[print] >= WORN_OUT) {
                return 1;
            }
            if (track != NO_TRACK && !houses.canPlay(hall, track)) {
                return 2;
            }
            if (track == NO_TRACK && houses.band[hall] == 0) {
                return 3;
            }
            return barFirm == NONE ? 0 : 4;
        }
    }

    /** The CROWDS, and the WEEKS in which they go to the HALLS. */
    private static final class Crowds {
        private final Reels reels;
        private final Houses houses;
        private final Firms firms;
        private final int[] town = new int[MOST_CROWDS];
        private final int[] tongue = new int[MOST_CROWDS];
        private final int[] taste = new int[MOST_CROWDS];
        private final int[] many = new int[MOST_CROWDS];
        private final int[] purse = new int[MOST_CROWDS];
        final int[][] heard = new int[MOST_CROWDS][MOST_PICTURES];
        int crowds;
        private final boolean[] running = new boolean[MOST_HALLS];
        private final boolean[] isOff = new boolean[MOST_HALLS];
        private final int[] fee = new int[MOST_HALLS];
        private final int[] keep = new int[MOST_HALLS];
        // Each going fills a HALL or is the last one of its CROWD.
        private final int[] goer = new int[MOST_CROWDS + MOST_HALLS];
        private final int[] goal = new int[MOST_CROWDS + MOST_HALLS];
        private int goings;

        Crowds(Reels reels, Houses houses, Firms firms) {
            this.reels = reels;
            this.houses = houses;
            this.firms = firms;
        }

        int addCrowd(int itsTown, int itsTongue, int itsTaste, int itsMany, int itsPurse) {
            boolean fits = within(itsTown, 0, TOWNS - 1) && within(itsTongue, 0, TONGUES - 1)
                && within(itsTaste, 0, TASTES - 1) && within(itsMany, 0, 9999) && within(itsPurse, 0, 99);
            if (!fits || crowds >= MOST_CROWDS) {
                return NONE;
            }
            town[crowds] = itsTown;
            tongue[crowds] = itsTongue;
            taste[crowds] = itsTaste;
            many[crowds] = itsMany;
            purse[crowds] = itsPurse;
            crowds++;
            return crowds - 1;
        }

        boolean hasCrowd(int crowd) {
            return crowd >= 0 && crowd < crowds;
        }

        /** Finds what holds of a HALL's PRINT for the whole WEEK. */
        void inspect(int hall, int now) {
            int print = houses.printIn[hall];
            running[hall] = false;
            isOff[hall] = false;
            fee[hall] = 0;
            keep[hall] = 0;
            if (reels.hasPrint(print)) {
                firms.judge(print, hall, now);
                running[hall] = firms.reason(print, hall) == 0;
                isOff[hall] = reels.firstOff(print, now) != NONE;
                fee[hall] = firms.fee;
                keep[hall] = firms.keep;
            }
        }

        /** The WORTH of a HALL that was inspected. */
        int worthOf(int crowd, int hall) {
            int print = houses.printIn[hall];
            boolean open = running[hall] && town[crowd] == houses.town[hall] && purse[crowd] >= houses.price[hall];
            if (!open || !reels.hasPrint(print)) {
                return NO_WORTH;
            }
            int picture = reels.pictureOf[print];
            int worth = heard[crowd][picture];
            if (reels.tongue[picture] == tongue[crowd]) {
                worth += 4;
            } else if (reels.tongue[picture] == SILENT) {
                worth += 2;
            }
            if (reels.taste[picture] == taste[crowd]) {
                worth += 3;
            }
            return isOff[hall] ? worth - 4 : worth;
        }

        /** One WEEK goes. */
        void pass(int now) {
            goings = 0;
            for (int i = 0; i < houses.halls; i++) {
                inspect(i, now);
                houses.lookers[i] = 0;
            }
            for (int i = 0; i < crowds; i++) {
                send(i);
            }
            for (int i = 0; i < houses.halls; i++) {
                account(i);
            }
            for (int i = 0; i < goings; i++) {
                spread(goer[i], goal[i]);
            }
        }

        private void send(int crowd) {
            int rest = many[crowd];
            for (int i = 0; i < houses.halls && rest > 0; i++) {
                int hall = bestHall(crowd);
                if (hall == NONE) {
                    return;
                }
                int some = Math.min(rest, houses.places(hall));
                houses.lookers[hall] += some;
                rest -= some;
                note(crowd, hall);
            }
        }

        private int bestHall(int crowd) {
            int best = NONE;
            int most = 0;
            for (int i = 0; i < houses.halls; i++) {
                int worth = houses.places(i) > 0 ? worthOf(crowd, i) : NO_WORTH;
                boolean cheaper = best != NONE && worth == most && houses.price[i] < houses.price[best];
                if (worth > most || cheaper) {
                    best = i;
                    most = worth;
                }
            }
            return best;
        }

        private void note(int crowd, int hall) {
            if (goings < goer.length) {
                goer[goings] = crowd;
                goal[goings] = hall;
                goings++;
            }
        }

        private void account(int hall) {
            int print = houses.printIn[hall];
            int set = houses.setIn[hall];
            int lookers = houses.lookers[hall];
            houses.took[hall] = lookers * houses.price[hall];
            houses.allLookers[hall] += lookers;
            houses.coin[hall] += houses.took[hall] - 3 * houses.band[hall];
            if (houses.hasSet(set)) {
                houses.coin[hall] -= houses.hire[set];
            }
            if (reels.hasPrint(print)) {
                houses.coin[hall] -= 9 * Math.max(0, keep[hall] - houses.band[hall]);
            }
            if (running[hall] && reels.hasPrint(print)) {
                houses.coin[hall] -= fee[hall];
                reels.wear[print]++;
            }
        }

        /** Tells the word of some who went to a HALL to all who speak as they do. */
        private void spread(int crowd, int hall) {
            int print = houses.printIn[hall];
            if (!reels.hasPrint(print)) {
                return;
            }
            int picture = reels.pictureOf[print];
            boolean liked = reels.taste[picture] == taste[crowd] && !isOff[hall];
            for (int i = 0; i < crowds; i++) {
                if (tongue[i] == tongue[crowd]) {
                    int word = heard[i][picture] + (liked ? 1 : -1);
                    heard[i][picture] = Math.max(-3, Math.min(3, word));
                }
            }
        }
    }

    /** The VERSIONS made on one stage, and the PERSONS who lend their faces. */
    private static final class Studio {
        private final int[] nights = new int[MOST_VERSIONS];
        private final int[][] change = new int[MOST_VERSIONS][MOST_VERSIONS];
        private int versions;
        // A row for each set: the fewest NIGHTS of CHANGES if this or that one of it is made first.
        private final int[] fewestFrom = new int[(1 << MOST_VERSIONS) * MOST_VERSIONS];
        private final int[] tongues = new int[MOST_PERSONS];
        private final int[] voice = new int[MOST_PERSONS];
        private int persons;
        int fewest;
        int leastSet;
        int setsOfSoMany;

        int addVersion(int itsNights) {
            if (!within(itsNights, 1, 20) || versions >= MOST_VERSIONS) {
                return NONE;
            }
            nights[versions] = itsNights;
            versions++;
            return versions - 1;
        }

        private boolean hasVersion(int version) {
            return version >= 0 && version < versions;
        }

        boolean link(int a, int b, int itsNights) {
            if (!hasVersion(a) || !hasVersion(b) || a == b || !within(itsNights, 0, 9)) {
                return false;
            }
            change[a][b] = itsNights;
            return true;
        }

        int order(int set, int what) {
            if (!within(set, 1, (1 << versions) - 1) || !within(what, 0, Integer.bitCount(set))) {
                return NONE;
            }
            fill(set);
            if (what == 0) {
                return fewestNights(set);
            }
            int made = NONE;
            int left = set;
            for (int i = 0; i < what; i++) {
                made = next(made, left);
                left &= ~(1 << made);
            }
            return made;
        }

        private void fill(int set) {
            for (int part = 1; part <= set; part++) {
                for (int i = 0; i < versions && (part & set) == part; i++) {
                    if (has(part, i)) {
                        int left = part & ~(1 << i);
                        fewestFrom[part * MOST_VERSIONS + i] = left == 0 ? 0 : after(i, left, next(i, left));
                    }
                }
            }
        }

        /** The NIGHTS of CHANGES if one VERSION is made, then another one as the first of what is left. */
        private int after(int made, int left, int first) {
            int changing = made == NONE ? 0 : change[made][first];
            return changing + fewestFrom[left * MOST_VERSIONS + first];
        }

        /** The first VERSION by number that goes best behind the one just made (NONE: at the beginning). */
        private int next(int made, int left) {
            int best = NONE;
            int least = 0;
            for (int i = 0; i < versions; i++) {
                int all = has(left, i) ? after(made, left, i) : 0;
                if (has(left, i) && (best == NONE || all < least)) {
                    best = i;
                    least = all;
                }
            }
            return best;
        }

        private int fewestNights(int set) {
            int all = after(NONE, set, next(NONE, set));
            for (int i = 0; i < versions; i++) {
                if (has(set, i)) {
                    all += nights[i];
                }
            }
            return all;
        }

        int addPerson(int itsTongues, int itsVoice) {
            if (!within(itsTongues, 1, EVERY_TONGUE) || !within(itsVoice, 0, 9) || persons >= MOST_PERSONS) {
                return NONE;
            }
            tongues[persons] = itsTongues;
            voice[persons] = itsVoice;
            persons++;
            return persons - 1;
        }

        /** Finds the FACES: whether there are any. */
        boolean cast(int wanted, int leastVoice) {
            if (!within(wanted, 1, EVERY_TONGUE) || !within(leastVoice, 0, 9)) {
                return false;
            }
            // Each of the fewest brings a TONGUE that no other one has: more than there are TONGUES are never needed.
            fewest = TONGUES + 1;
            int able = ableSet(leastVoice);
            for (int set = 1; set <= able; set++) {
                int size = Integer.bitCount(set);
                if ((set & able) == set && size <= fewest && size <= TONGUES && speaks(set, wanted)) {
                    count(set, size);
                }
            }
            return fewest <= TONGUES;
        }

        private int ableSet(int leastVoice) {
            int able = 0;
            for (int i = 0; i < persons; i++) {
                if (voice[i] >= leastVoice) {
                    able |= 1 << i;
                }
            }
            return able;
        }

        private boolean speaks(int set, int wanted) {
            int together = 0;
            for (int i = 0; i < persons; i++) {
                if (has(set, i)) {
                    together |= tongues[i];
                }
            }
            return (together & wanted) == wanted;
        }

        private void count(int set, int size) {
            if (size < fewest) {
                fewest = size;
                leastSet = set;
                setsOfSoMany = 0;
            }
            setsOfSoMany++;
        }
    }

    /** The gang that wires one HALL behind the other. */
    private static final class Wiring {
        private final Houses houses;
        private final int[] weeks = new int[MOST_HALLS];
        private final int[] loss = new int[MOST_HALLS];
        private final int[] member = new int[MOST_WIRED];
        private int members;
        // What all members of a set lose in a WEEK.
        private final int[] lossOf = new int[1 << MOST_WIRED];
        // A row for each set of members left: what they lose, at least, if the gang is in this or that TOWN.
        private final int[] leastFrom = new int[(1 << MOST_WIRED) * TOWNS];

        Wiring(Houses houses) {
            this.houses = houses;
            for (int i = 0; i < MOST_HALLS; i++) {
                weeks[i] = 1;
            }
        }

        boolean demand(int hall, int itsWeeks, int itsLoss) {
            if (!houses.hasHall(hall) || !within(itsWeeks, 1, 9) || !within(itsLoss, 0, 999)) {
                return false;
            }
            weeks[hall] = itsWeeks;
            loss[hall] = itsLoss;
            return true;
        }

        int order(int set, int what) {
            boolean there = within(set, 1, (1 << houses.halls) - 1) && Integer.bitCount(set) <= MOST_WIRED;
            if (!there || !within(what, 0, Integer.bitCount(set))) {
                return NONE;
            }
            enlist(set);
            fill();
            int left = (1 << members) - 1;
            int town = 0;
            if (what == 0) {
                return leastFrom[left * TOWNS + town];
            }
            int wired = NONE;
            for (int i = 0; i < what; i++) {
                int next = next(left, town);
                wired = member[next];
                town = houses.town[wired];
                left &= ~(1 << next);
            }
            return wired;
        }

        private void enlist(int set) {
            members = 0;
            for (int i = 0; i < houses.halls; i++) {
                if (has(set, i) && members < MOST_WIRED) {
                    member[members] = i;
                    members++;
                }
            }
        }

        private void fill() {
            for (int left = 1; left < 1 << members; left++) {
                int last = lastOf(left);
                lossOf[left] = lossOf[left & ~(1 << last)] + loss[member[last]];
                for (int town = 0; town < TOWNS; town++) {
                    leastFrom[left * TOWNS + town] = after(left, town, next(left, town));
                }
            }
        }

        private int lastOf(int left) {
            int last = 0;
            for (int i = 0; i < members; i++) {
                if (has(left, i)) {
                    last = i;
                }
            }
            return last;
        }

        /** What all who are left lose if the gang goes from a TOWN to one of them first. */
        private int after(int left, int town, int first) {
            int hall = member[first];
            int there = houses.town[hall];
            int lasts = Math.abs(town - there) + weeks[hall];
            // Each WEEK costs what those lose who are not done: so the order behind it doesn't ask how late it is.
            return lasts * lossOf[left] + leastFrom[(left & ~(1 << first)) * TOWNS + there];
        }

        /** The first member, by the numbers of HALLS, that is best to go to from a TOWN. */
        private int next(int left, int town) {
            int best = NONE;
            int least = 0;
            for (int i = 0; i < members; i++) {
                int all = has(left, i) ? after(left, town, i) : 0;
                if (has(left, i) && (best == NONE || all < least)) {
                    best = i;
                    least = all;
                }
            }
            return best;
        }
    }

    /** What the PARTIES OWE, and how it is cleared. */
    private static final class Debts {
        private static final int MOST_ROUNDS = 300;
        private static final int MOST_TOLD = 99999;

        private final Houses houses;
        private final int[][] owes = new int[PARTIES][PARTIES];
        private final int[] told = new int[PARTIES - MOST_HALLS];
        final long[] owesInAll = new long[PARTIES];
        final long[] pays = new long[PARTIES];
        final long[] comes = new long[PARTIES];
        int rounds;

        Debts(Houses houses) {
            this.houses = houses;
        }

        boolean lend(int a, int b, int v) {
            boolean parties = within(a, 0, PARTIES - 1) && within(b, 0, PARTIES - 1) && a != b;
            if (!parties || !within(v, 0, MOST_TOLD)) {
                return false;
            }
            owesInAll[a] += v - owes[a][b];
            owes[a][b] = v;
            return true;
        }

        boolean fill(int party, int v) {
            if (!within(party, MOST_HALLS, PARTIES - 1) || !within(v, 0, MOST_TOLD)) {
                return false;
            }
            told[party - MOST_HALLS] = v;
            return true;
        }

        void settle(int fall) {
            boolean changed = true;
            for (int i = 0; i < PARTIES; i++) {
                pays[i] = owesInAll[i];
            }
            rounds = 0;
            for (int i = 0; i < MOST_ROUNDS && changed; i++) {
                share();
                changed = payAgain(fall);
                rounds++;
            }
            share();
        }

        /** Shares what each pays among those whom it OWES. */
        private void share() {
            for (int i = 0; i < PARTIES; i++) {
                comes[i] = 0;
            }
            for (int i = 0; i < PARTIES; i++) {
                for (int j = 0; j < PARTIES && pays[i] > 0 && owesInAll[i] > 0; j++) {
                    comes[j] += owes[i][j] * pays[i] / owesInAll[i];
                }
            }
        }

        /** Each pays what it can: whether one pays otherwise than in the ROUND ahead. */
        private boolean payAgain(int fall) {
            boolean changed = false;
            for (int i = 0; i < PARTIES; i++) {
                long before = pays[i];
                pays[i] = Math.min(owesInAll[i], purseOf(i) * (100 - fall) / 100 + comes[i]);
                changed = changed || pays[i] != before;
            }
            return changed;
        }

        private long purseOf(int party) {
            if (party >= MOST_HALLS) {
                return told[party - MOST_HALLS];
            }
            return houses.hasHall(party) ? Math.max(0, houses.coin[party]) : 0;
        }
    }

    /** The CLAUSES that the FIRMS SIGN. */
    private static final class Terms {
        private static final int ALL_FIRMS = 7;

        private final int[][] worth = new int[FIRMS][MOST_CLAUSES];
        private final int[] stands = new int[FIRMS];
        private int clauses;
        int pool;
        int poolWorth;
        int shutOut;

        int addClause(int a, int b, int c) {
            boolean fits = within(a, -99, 99) && within(b, -99, 99) && within(c, -99, 99);
            if (!fits || clauses >= MOST_CLAUSES) {
                return NONE;
            }
            worth[0][clauses] = a;
            worth[1][clauses] = b;
            worth[2][clauses] = c;
            clauses++;
            return clauses - 1;
        }

        boolean insist(int firm, int v) {
            if (!within(firm, 0, FIRMS - 1) || !within(v, -999, 999)) {
                return false;
            }
            stands[firm] = v;
            return true;
        }

        int worthTo(int firm, int set) {
            int all = 0;
            for (int i = 0; i < clauses; i++) {
                if (has(set, i)) {
                    all += worth[firm][i];
                }
            }
            return all;
        }

        /** Finds THE POOL, or who is SHUT OUT. */
        void bargain() {
            int leastOut = FIRMS;
            pool = NONE;
            poolWorth = 0;
            for (int set = 0; set < 1 << clauses; set++) {
                int signers = signers(set);
                if (signers == ALL_FIRMS) {
                    offer(set);
                }
                leastOut = Math.min(leastOut, outOf(signers));
            }
            shutOut = pool == NONE ? leastOut : NONE;
        }

        private int signers(int set) {
            int signers = 0;
            for (int i = 0; i < FIRMS; i++) {
                if (worthTo(i, set) >= stands[i]) {
                    signers |= 1 << i;
                }
            }
            return signers;
        }

        private void offer(int set) {
            int all = worthTo(0, set) + worthTo(1, set) + worthTo(2, set);
            if (pool == NONE || all > poolWorth) {
                pool = set;
                poolWorth = all;
            }
        }

        /** The least FIRM without which the others are among the signers; FIRMS if there is none. */
        private static int outOf(int signers) {
            for (int i = 0; i < FIRMS; i++) {
                if ((signers | 1 << i) == ALL_FIRMS) {
                    return i;
                }
            }
            return FIRMS;
        }
    }
}
