import java.util.Arrays;

/**
 * A printing house in which each sign belongs to an apprentice who is paid for it.
 * The rows of an object are made in its constructor and used again: no call makes a new one.
 */
public final class CommaOrphans {
    public static final int NONE = -1;

    private static final int SIGNS = 29;
    private static final int LETTERS = 26;
    private static final int BLANK = 29;
    private static final int CREW = 8;
    private static final int NO_OWNER = 9;
    private static final int MOST_PURSE = 99999;
    private static final int MOST_BREAD = 99;
    private static final int MOST_PAY = 99;
    private static final int MOST_JEALOUSY = 1000;
    private static final int LAST_DAY = 9999;
    private static final int TAPE = 400;
    private static final int PAGE = 60;
    private static final int WORDS = 20;
    private static final int WORD = 12;
    private static final int ROLL = 200;
    private static final int ROLL_PARTS = 5;
    private static final int UNDOS = 6;
    private static final int CHANGED_PAGE = 12;
    private static final int LINES = 16;
    private static final int OPEN = 8;
    private static final int STACK = 64;
    /* Four hundred numbers of this size can be added or taken away, and no int wraps. */
    private static final int SURE = 1000000;

    /* What a line of the law may ask about a sign at its place, in the order of the keywords. */
    private static final int ASK_SIGN = 0;
    private static final int ASK_PLACE = 1;
    private static final int ASK_LONG = 2;
    private static final int ASK_USED = 3;
    private static final int ASK_VOWEL = 4;
    private static final int ASK_OWNER = 5;
    private static final int ASK_DAY = 6;
    private static final int ASK_LEFT = 7;
    private static final int ASK_FIRST = 8;
    private static final int ASKS = 9;

    /* The law's code: numbers stand for themselves, -1 .. -9 for what is asked, these for the rest. */
    private static final int ADD = -10;
    private static final int SUBTRACT = -11;
    private static final int MULTIPLY = -12;
    private static final int DIVIDE = -13;
    private static final int LESS = -14;
    private static final int SAME = -15;
    private static final int MORE = -16;
    private static final int BOTH = -17;
    private static final int EITHER = -18;
    private static final int DENY = -19;

    /* Kinds of tokens: these, a symbol's own byte (40 and more), or NUMBER and the number added. */
    private static final int END = 0;
    private static final int WRONG = 1;
    private static final int PAY = 3;
    private static final int WHEN = 4;
    private static final int OR = 5;
    private static final int AND = 6;
    private static final int NOT = 7;
    private static final int FIRST_ASK = 8;
    private static final int NUMBER = 1000;
    private static final int KEYWORD = 5;
    private static final int DIGITS = 4;
    private static final String KEYWORDS =
        "pay  when or   and  not  sign placelong used vowelownerday  left first";
    private static final String SYMBOLS = ";+-*/()<=>";

    private static final int FAULT_STANDS = 1;
    private static final int FAULT_ZERO = 2;
    private static final int FAULT_MANY = 3;

    private final House house;
    private final House kept;
    private boolean imaged;
    private final Row tape;
    private final LawReader reader;
    private final Shelf shelf;
    private final Press press;
    private final Remedy remedy;
    private final Basket basket;
    private final Barter barter;

    public CommaOrphans() {
        house = new House();
        kept = new House();
        tape = new Row(TAPE);
        reader = new LawReader(tape);
        shelf = new Shelf();
        press = new Press(house);
        remedy = new Remedy(house, press);
        basket = new Basket(house, press);
        barter = new Barter(house, press);
    }

    public int state(int v) {
        int was = house.state;
        house.state = v;
        shelf.count = 0;
        return was;
    }

    public int apprentice(int purse, int bread) {
        if (house.crew >= CREW || !within(purse, MOST_PURSE) || !within(bread, MOST_BREAD)) {
            return NONE;
        }
        int number = house.crew;
        house.purse[number] = purse;
        house.bread[number] = bread;
        house.strike[number] = 0;
        house.hungry[number] = 0;
        house.told[number] = NONE;
        house.crew++;
        houseChanged();
        return number;
    }

    public boolean own(int sign, int apprentice) {
        if (!isSign(sign) || apprentice != NONE && !house.has(apprentice)) {
            return false;
        }
        house.owner[sign] = apprentice;
        houseChanged();
        return true;
    }

    public boolean set(int what, int who, int v) {
        boolean known = what == 0 || (what == 1 ? isSign(who) : house.has(who));
        if (!known || !house.put(what, who, v)) {
            return false;
        }
        if (what != 5) {
            houseChanged();
        }
        return true;
    }

    public int feed(int a, int b, int c, int d, int e) {
        if (tape.length + 20 > TAPE) {
            return NONE;
        }
        addBytes(a);
        addBytes(b);
        addBytes(c);
        addBytes(d);
        addBytes(e);
        return tape.length;
    }

    public boolean end(int n) {
        if (n < 0 || n > tape.length) {
            return false;
        }
        tape.length = n;
        return true;
    }

    public int text() {
        boolean right = reader.readLaw();
        tape.length = 0;
        if (!right) {
            return NONE;
        }
        house.law.take(reader.draft);
        lawChanged();
        return house.law.lines;
    }

    public int fault(int what) {
        if (what == 0) {
            return reader.fault;
        }
        return what == 1 ? reader.faultPlace : NONE;
    }

    public int page() {
        int wrong = wrongPlaceOfPage();
        if (wrong == NONE) {
            house.page.length = 0;
            for (int i = 0; i < tape.length; i++) {
                house.page.add(signOf(tape.get(i)));
            }
            forgetThoughts();
        }
        tape.length = 0;
        return wrong == NONE ? house.page.length : NONE - wrong;
    }

    public int word() {
        boolean added = house.words.add(tape);
        tape.length = 0;
        forgetThoughts();
        return added ? house.words.count - 1 : NONE;
    }

    public int clear() {
        int had = house.words.count;
        house.words.count = 0;
        forgetThoughts();
        return had;
    }

    public int print() {
        shelf.keep(house);
        return press.printPage();
    }

    public int day() {
        if (house.day >= LAST_DAY) {
            return NONE;
        }
        int hungry = house.eat();
        house.day++;
        houseChanged();
        return hungry;
    }

    public int of(int apprentice, int what) {
        if (!house.has(apprentice)) {
            return NONE - 1;
        }
        switch (what) {
            case 0: return house.purse[apprentice];
            case 1: return house.bread[apprentice];
            case 2: return house.strike[apprentice];
            case 3: return house.hungry[apprentice];
            case 4: return house.countOwned(apprentice);
            case 5: return house.told[apprentice];
            case 6: return press.earnsByPage(apprentice);
            default: return NONE - 1;
        }
    }

    public int sign(int sign, int what) {
        if (!isSign(sign)) {
            return NONE - 1;
        }
        switch (what) {
            case 0: return house.owner[sign];
            case 1: return house.burnt[sign];
            case 2: return house.printed[sign];
            default: return NONE - 1;
        }
    }

    public int at(int i) {
        return house.page.has(i) ? house.page.get(i) : NONE;
    }

    public int pays(int i) {
        if (!house.page.has(i) || !isSign(house.page.get(i))) {
            return NONE;
        }
        press.lookOver();
        press.measure(house.page, 0);
        return press.payAt(house.page, i);
    }

    public int roll(int i, int what) {
        if (i < 0 || i >= house.rollLines || what < 0 || what >= ROLL_PARTS) {
            return NONE;
        }
        return house.roll[i * ROLL_PARTS + what];
    }

    public int fewest(int what) {
        if (what < 0 || what > 4) {
            return NONE;
        }
        if (!remedy.known) {
            remedy.seek();
        }
        return remedy.answer[what];
    }

    public int buy(int apprentice, int what) {
        if (!house.has(apprentice) || house.words.count == 0 || what < 0 || what > 3) {
            return NONE;
        }
        if (basket.buyer != apprentice) {
            basket.seek(apprentice);
        }
        return basket.answer[what];
    }

    public int can() {
        press.lookOver();
        int set = 0;
        for (int word = 0; word < house.words.count; word++) {
            if (press.canSet(word)) {
                set |= 1 << word;
            }
        }
        return set;
    }

    public int hurts(int apprentice, int what) {
        if (!house.has(apprentice) || what < 0 || what > 1) {
            return NONE - MOST_PURSE;
        }
        if (house.strike[apprentice] != 0) {
            return 0;
        }
        return what == 0 ? press.lossByStrike(apprentice) : press.signsOnPage(apprentice);
    }

    public int swap(int what) {
        if (what < 0 || what > 2) {
            return NONE;
        }
        if (!barter.known) {
            barter.seek();
        }
        return barter.answer[what];
    }

    public int liars() {
        int set = 0;
        for (int a = 0; a < house.crew; a++) {
            if (house.told[a] != NONE && house.told[a] != house.countPrinted(a)) {
                set |= 1 << a;
            }
        }
        return set;
    }

    public boolean undo() {
        return shelf.giveBack(house);
    }

    public boolean image(boolean taken) {
        if (taken) {
            kept.take(house);
            imaged = true;
            return true;
        }
        if (!imaged) {
            return false;
        }
        house.take(kept);
        shelf.count = 0;
        lawChanged();
        return true;
    }

    public int look(int what) {
        switch (what) {
            case 0: return house.crew;
            case 1: return house.page.length;
            case 2: return house.words.count;
            case 3: return house.rollLines;
            case 4: return house.gaps;
            case 5: return house.day;
            case 6: return house.jealousy;
            case 7: return house.law.lines;
            case 8: return shelf.count;
            case 9: return house.state;
            default: return NONE;
        }
    }

    /** What can be undone holds purses and counts as they were: any other change would be lost by it. */
    private void houseChanged() {
        shelf.count = 0;
        forgetThoughts();
    }

    private void lawChanged() {
        press.forgetPays();
        forgetThoughts();
    }

    private void forgetThoughts() {
        remedy.known = false;
        basket.buyer = NONE;
        barter.known = false;
    }

    private int wrongPlaceOfPage() {
        for (int i = 0; i < tape.length; i++) {
            if (i >= PAGE || signOf(tape.get(i)) == NONE) {
                return i;
            }
        }
        return NONE;
    }

    private void addBytes(int four) {
        tape.add(four >>> 24);
        tape.add(four >>> 16 & 255);
        tape.add(four >>> 8 & 255);
        tape.add(four & 255);
    }

    private static boolean within(int v, int most) {
        return v >= 0 && v <= most;
    }

    private static boolean isSign(int s) {
        return s >= 0 && s < SIGNS;
    }

    private static boolean isLetter(int s) {
        return s >= 0 && s < LETTERS;
    }

    private static boolean isSmallLetter(int b) {
        return b >= 'a' && b <= 'z';
    }

    /** In a text capitals are letters too, though no keyword has one. */
    private static boolean isLetterOfText(int b) {
        return isSmallLetter(b) || b >= 'A' && b <= 'Z';
    }

    private static boolean isDigit(int b) {
        return b >= '0' && b <= '9';
    }

    private static boolean isBlank(int b) {
        return b == 32 || b == 10;
    }

    /** The sign that a byte of a page tells, BLANK too; NONE if it tells none. */
    private static int signOf(int b) {
        if (isSmallLetter(b)) {
            return b - 'a';
        }
        switch (b) {
            case ',': return 26;
            case '.': return 27;
            case ';': return 28;
            case 32: return BLANK;
            case 10: return BLANK;
            default: return NONE;
        }
    }

    /** Numbers that stand behind one another: bytes of the tape, or signs and blanks. */
    private static final class Row {
        final int[] places;
        int length;

        Row(int most) {
            places = new int[Math.max(most, 0)];
        }

        boolean has(int i) {
            return i >= 0 && i < length && i < places.length;
        }

        int get(int i) {
            return i >= 0 && i < places.length ? places[i] : BLANK;
        }

        void put(int i, int v) {
            if (has(i)) {
                places[i] = v;
            }
        }

        void add(int v) {
            if (length >= 0 && length < places.length) {
                places[length] = v;
                length++;
            }
        }

        void take(Row other) {
            length = Math.min(other.length, places.length);
            for (int i = 0; i < length; i++) {
                places[i] = other.get(i);
            }
        }

        boolean holds(int v) {
            for (int i = 0; i < length; i++) {
                if (get(i) == v) {
                    return true;
                }
            }
            return false;
        }
    }

    /** The words that may be bought, each in twelve places of one row. */
    private static final class WordList {
        final int[] letters = new int[WORDS * WORD];
        final int[] lengths = new int[WORDS];
        int count;

        boolean add(Row bytes) {
            if (count < 0 || count >= WORDS || bytes.length < 1 || bytes.length > WORD) {
                return false;
            }
            for (int i = 0; i < bytes.length; i++) {
                if (!isSmallLetter(bytes.get(i))) {
                    return false;
                }
            }
            for (int i = 0; i < bytes.length && i < WORD; i++) {
                letters[count * WORD + i] = signOf(bytes.get(i));
            }
            lengths[count] = bytes.length;
            count++;
            return true;
        }

        int lengthOf(int word) {
            return word >= 0 && word < count ? lengths[word] : 0;
        }

        int letter(int word, int i) {
            int where = word * WORD + i;
            return where >= 0 && where < letters.length ? letters[where] : BLANK;
        }

        void take(WordList other) {
            System.arraycopy(other.letters, 0, letters, 0, WORDS * WORD);
            System.arraycopy(other.lengths, 0, lengths, 0, WORDS);
            count = other.count;
        }
    }

    /** The law as code for a stack: of each line what it pays, then when. */
    private static final class Law {
        final int[] code = new int[TAPE];
        final int[] starts = new int[LINES + 1];
        final int[] conditions = new int[LINES];
        int size;
        int lines;
        int asked;

        void wipe() {
            size = 0;
            lines = 0;
            asked = 0;
        }

        void emit(int op) {
            if (size >= 0 && size < code.length) {
                code[size] = op;
                size++;
            }
        }

        boolean asks(int what) {
            return (asked >> what & 1) != 0;
        }

        void endOfPay() {
            if (lines >= 0 && lines < LINES) {
                conditions[lines] = size;
            }
        }

        void endOfLine() {
            if (lines >= 0 && lines < LINES) {
                lines++;
                starts[lines] = size;
            }
        }

        void take(Law other) {
            System.arraycopy(other.code, 0, code, 0, TAPE);
            System.arraycopy(other.starts, 0, starts, 0, LINES + 1);
            System.arraycopy(other.conditions, 0, conditions, 0, LINES);
            size = other.size;
            lines = other.lines;
            asked = other.asked;
        }

        boolean isBare(int line) {
            return conditions[line] >= starts[line + 1];
        }

        int payFor(int[] facts, int[] stack) {
            for (int line = 0; line < lines && line < LINES; line++) {
                if (isBare(line) || run(conditions[line], starts[line + 1], facts, stack) != 0) {
                    int pay = run(starts[line], conditions[line], facts, stack);
                    return Math.max(0, Math.min(MOST_PAY, pay));
                }
            }
            return 1;
        }

        /** A bound of what any sign can be paid, where no fact is above its bound. */
        int mostPay(int[] bounds, int[] stack) {
            int most = 0;
            for (int line = 0; line < lines && line < LINES; line++) {
                most = Math.max(most, mostOfSum(starts[line], conditions[line], bounds, stack));
                if (isBare(line)) {
                    return most;
                }
            }
            return Math.max(most, 1);
        }

        /** No fact or number is below 0, so a sum is most without what it takes away; great ones might wrap. */
        private int mostOfSum(int from, int to, int[] bounds, int[] stack) {
            int top = 0;
            for (int i = Math.max(from, 0); i < to && i < code.length; i++) {
                int op = code[i];
                if (op >= -ASKS) {
                    if (top >= stack.length) {
                        return MOST_PAY;
                    }
                    stack[top] = op >= 0 ? op : bounds[-1 - op];
                    top++;
                    continue;
                }
                top--;
                if (top < 1) {
                    return MOST_PAY;
                }
                long most = stack[top - 1];
                long by = stack[top];
                most = op == ADD ? most + by : op == MULTIPLY ? most * by : op == DIVIDE && by > 0 ? most / by : most;
                if (most > SURE) {
                    return MOST_PAY;
                }
                stack[top - 1] = (int) most;
            }
            return top > 0 ? Math.min(MOST_PAY, stack[0]) : MOST_PAY;
        }

        private int run(int from, int to, int[] facts, int[] stack) {
            int top = 0;
            for (int i = from < 0 ? 0 : from; i < to && i < code.length; i++) {
                int op = code[i];
                if (op >= -ASKS) {
                    if (top >= stack.length) {
                        return 0;
                    }
                    stack[top] = op >= 0 ? op : facts[-1 - op];
                    top++;
                    continue;
                }
                top -= op == DENY ? 0 : 1;
                if (top < 1) {
                    return 0;
                }
                int a = stack[top - 1];
                int b = top < stack.length ? stack[top] : 0;
                switch (op) {
                    case ADD: a += b; break;
                    case SUBTRACT: a -= b; break;
                    case MULTIPLY: a *= b; break;
                    case DIVIDE: a = b != 0 ? a / b : 0; break;
                    case LESS: a = a < b ? 1 : 0; break;
                    case SAME: a = a == b ? 1 : 0; break;
                    case MORE: a = a > b ? 1 : 0; break;
                    case BOTH: a &= b; break;
                    case EITHER: a |= b; break;
                    default: a = 1 - a; break;
                }
                stack[top - 1] = a;
            }
            return top > 0 ? stack[0] : 0;
        }
    }

    /** Reads the tape as a law; stops at the first token that can't stand, which is the first fault. */
    private static final class LawReader {
        final Law draft = new Law();
        int fault;
        int faultPlace = NONE;
        private final Row tape;
        private final int[] kinds = new int[TAPE + 1];
        private final int[] places = new int[TAPE + 1];
        private int now;
        private int kind;

        LawReader(Row tape) {
            this.tape = tape;
        }

        boolean readLaw() {
            draft.wipe();
            fault = 0;
            faultPlace = NONE;
            split();
            now = 0;
            kind = kinds[0];
            for (int line = 0; line <= LINES; line++) {
                if (kind == END) {
                    return true;
                }
                if (!readLine()) {
                    return false;
                }
            }
            return false;
        }

        private void split() {
            int at = 0;
            for (int n = 0; n <= TAPE; n++) {
                while (at < tape.length && isBlank(tape.get(at))) {
                    at++;
                }
                places[n] = at;
                kinds[n] = END;
                if (at >= tape.length) {
                    return;
                }
                int end = endOfToken(at);
                kinds[n] = kindOf(at, end);
                at = end;
            }
        }

        private int endOfToken(int at) {
            boolean word = isLetterOfText(tape.get(at));
            boolean number = isDigit(tape.get(at));
            int end = at + 1;
            while (end < tape.length
                && (word && isLetterOfText(tape.get(end)) || number && isDigit(tape.get(end)))) {
                end++;
            }
            return end;
        }

        private int kindOf(int at, int end) {
            int b = tape.get(at);
            if (isLetterOfText(b)) {
                return kindOfWord(at, end);
            }
            if (!isDigit(b)) {
                return SYMBOLS.indexOf((char) b) >= 0 ? b : WRONG;
            }
            if (end - at > DIGITS) {
                return WRONG;
            }
            int value = 0;
            for (int i = at; i < end; i++) {
                value = value * 10 + tape.get(i) - '0';
            }
            return NUMBER + value;
        }

        private int kindOfWord(int at, int end) {
            if (end - at > KEYWORD) {
                return WRONG;
            }
            for (int k = 0; k * KEYWORD < KEYWORDS.length(); k++) {
                if (isKeyword(k * KEYWORD, at, end)) {
                    return PAY + k;
                }
            }
            return WRONG;
        }

        private boolean isKeyword(int from, int at, int end) {
            for (int i = 0; i < KEYWORD && from + i < KEYWORDS.length(); i++) {
                int here = at + i < end ? tape.get(at + i) : ' ';
                if (KEYWORDS.charAt(from + i) != here) {
                    return false;
                }
            }
            return true;
        }

        private void step() {
            if (now >= 0 && now < TAPE && kind != END) {
                now++;
                kind = kinds[now];
            }
        }

        private boolean fail(int which) {
            fault = which;
            faultPlace = now >= 0 && now < places.length ? places[now] : NONE;
            return false;
        }

        private boolean readLine() {
            if (kind != PAY) {
                return fail(FAULT_STANDS);
            }
            if (draft.lines >= LINES) {
                return fail(FAULT_MANY);
            }
            step();
            if (!readSum()) {
                return false;
            }
            draft.endOfPay();
            if (kind == WHEN) {
                step();
                if (!readChoice(0)) {
                    return false;
                }
            }
            if (kind != ';') {
                return fail(FAULT_STANDS);
            }
            draft.endOfLine();
            step();
            return true;
        }

        /** Claims joined by and, these joined by or, inside so many ( and not that are open. */
        private boolean readChoice(int open) {
            boolean joined = false;
            for (int n = 0; n < TAPE; n++) {
                if (!readClaim(open)) {
                    return false;
                }
                for (int m = 0; m < TAPE && kind == AND; m++) {
                    step();
                    if (!readClaim(open)) {
                        return false;
                    }
                    draft.emit(BOTH);
                }
                if (joined) {
                    draft.emit(EITHER);
                }
                if (kind != OR) {
                    return true;
                }
                joined = true;
                step();
            }
            return true;
        }

        private boolean readClaim(int open) {
            if (kind == NOT || kind == '(') {
                return readOpening(open);
            }
            if (!readSum()) {
                return false;
            }
            if (kind != '<' && kind != '=' && kind != '>') {
                return fail(FAULT_STANDS);
            }
            int op = kind == '<' ? LESS : kind == '=' ? SAME : MORE;
            step();
            if (!readSum()) {
                return false;
            }
            draft.emit(op);
            return true;
        }

        private boolean readOpening(int open) {
            if (open >= OPEN) {
                return fail(FAULT_MANY);
            }
            boolean denied = kind == NOT;
            step();
            if (denied) {
                if (!readClaim(open + 1)) {
                    return false;
                }
                draft.emit(DENY);
                return true;
            }
            if (!readChoice(open + 1)) {
                return false;
            }
            if (kind != ')') {
                return fail(FAULT_STANDS);
            }
            step();
            return true;
        }

        /** Units joined by * and /, these joined by + and -. */
        private boolean readSum() {
            int join = 0;
            for (int n = 0; n < TAPE; n++) {
                if (!readUnit()) {
                    return false;
                }
                for (int m = 0; m < TAPE && (kind == '*' || kind == '/'); m++) {
                    boolean times = kind == '*';
                    step();
                    if (times ? !readUnit() : !readDivisor()) {
                        return false;
                    }
                    draft.emit(times ? MULTIPLY : DIVIDE);
                }
                if (join != 0) {
                    draft.emit(join);
                }
                if (kind != '+' && kind != '-') {
                    return true;
                }
                join = kind == '+' ? ADD : SUBTRACT;
                step();
            }
            return true;
        }

        private boolean readUnit() {
            int ask = kind - FIRST_ASK;
            if (kind >= NUMBER) {
                draft.emit(kind - NUMBER);
            } else if (ask >= 0 && ask < ASKS) {
                draft.asked |= 1 << ask;
                draft.emit(-1 - ask);
            } else {
                return fail(FAULT_STANDS);
            }
            step();
            return true;
        }

        private boolean readDivisor() {
            if (kind <= NUMBER) {
                return fail(kind == NUMBER ? FAULT_ZERO : FAULT_STANDS);
            }
            draft.emit(kind - NUMBER);
            step();
            return true;
        }
    }

    /** All that an image keeps. */
    private static final class House {
        int crew;
        final int[] purse = new int[CREW];
        final int[] bread = new int[CREW];
        final int[] strike = new int[CREW];
        final int[] hungry = new int[CREW];
        final int[] told = new int[CREW];
        final int[] owner = new int[SIGNS];
        final int[] burnt = new int[SIGNS];
        final int[] printed = new int[SIGNS];
        final Row page = new Row(PAGE);
        final WordList words = new WordList();
        final Law law = new Law();
        final int[] roll = new int[ROLL * ROLL_PARTS];
        int rollLines;
        int gaps;
        int day;
        int jealousy;
        int state;

        House() {
            Arrays.fill(owner, NONE);
        }

        boolean has(int apprentice) {
            return apprentice >= 0 && apprentice < crew && apprentice < CREW;
        }

        /** Who must be one that can be, but for jealousy: the caller has looked. */
        boolean put(int what, int who, int v) {
            switch (what) {
                case 0:
                    jealousy = within(v, MOST_JEALOUSY) ? v : jealousy;
                    return within(v, MOST_JEALOUSY);
                case 1: return putIn(burnt, who, v, 1);
                case 2: return putIn(bread, who, v, MOST_BREAD);
                case 3: return putIn(strike, who, v, 1);
                case 4: return putIn(purse, who, v, MOST_PURSE);
                case 5:
                    if (v == NONE && who >= 0 && who < CREW) {
                        told[who] = NONE;
                        return true;
                    }
                    return putIn(told, who, v, MOST_PURSE);
                default: return false;
            }
        }

        private static boolean putIn(int[] row, int who, int v, int most) {
            if (who < 0 || who >= row.length || !within(v, most)) {
                return false;
            }
            row[who] = v;
            return true;
        }

        boolean canPrint(int sign) {
            return isSign(sign) && burnt[sign] == 0 && has(owner[sign]) && strike[owner[sign]] == 0;
        }

        int draw(int m) {
            state = 1664525 * state + 1013904223;
            return m > 0 ? (state >>> 8) % m : 0;
        }

        int countOwned(int apprentice) {
            int count = 0;
            for (int s = 0; s < SIGNS; s++) {
                if (owner[s] == apprentice) {
                    count++;
                }
            }
            return count;
        }

        int countPrinted(int apprentice) {
            int count = 0;
            for (int s = 0; s < SIGNS; s++) {
                if (owner[s] == apprentice) {
                    count += printed[s];
                }
            }
            return count;
        }

        boolean ownsUnburnt(int apprentice) {
            for (int s = 0; s < SIGNS; s++) {
                if (owner[s] == apprentice && burnt[s] == 0) {
                    return true;
                }
            }
            return false;
        }

        int leastOwned(int apprentice, int otherwise) {
            for (int s = 0; s < SIGNS; s++) {
                if (owner[s] == apprentice) {
                    return s;
                }
            }
            return otherwise;
        }

        int eat() {
            int without = 0;
            for (int a = 0; a < crew && a < CREW; a++) {
                if (purse[a] >= bread[a]) {
                    purse[a] -= bread[a];
                } else {
                    hungry[a]++;
                    without++;
                }
            }
            return without;
        }

        /** A sign that can be printed is paid for and told in the roll. */
        void book(int sign, int place, int pay) {
            int who = owner[sign];
            if (!has(who)) {
                return;
            }
            int came = Math.min(pay, MOST_PURSE - purse[who]);
            purse[who] += came;
            printed[sign]++;
            if (rollLines < ROLL) {
                int from = rollLines * ROLL_PARTS;
                roll[from] = sign;
                roll[from + 1] = day;
                roll[from + 2] = place;
                roll[from + 3] = who;
                roll[from + 4] = came;
                rollLines++;
            }
        }

        void take(House other) {
            crew = other.crew;
            System.arraycopy(other.purse, 0, purse, 0, CREW);
            System.arraycopy(other.bread, 0, bread, 0, CREW);
            System.arraycopy(other.strike, 0, strike, 0, CREW);
            System.arraycopy(other.hungry, 0, hungry, 0, CREW);
            System.arraycopy(other.told, 0, told, 0, CREW);
            System.arraycopy(other.owner, 0, owner, 0, SIGNS);
            System.arraycopy(other.burnt, 0, burnt, 0, SIGNS);
            System.arraycopy(other.printed, 0, printed, 0, SIGNS);
            page.take(other.page);
            words.take(other.words);
            law.take(other.law);
            System.arraycopy(other.roll, 0, roll, 0, ROLL * ROLL_PARTS);
            rollLines = other.rollLines;
            gaps = other.gaps;
            day = other.day;
            jealousy = other.jealousy;
            state = other.state;
        }
    }

    /** What the latest printings found, the oldest first: the roll only grows, so its length is enough. */
    private static final class Shelf {
        final int[] purses = new int[UNDOS * CREW];
        final int[] printed = new int[UNDOS * SIGNS];
        final int[] rollLines = new int[UNDOS];
        final int[] gaps = new int[UNDOS];
        final int[] states = new int[UNDOS];
        int count;

        void keep(House house) {
            if (count >= UNDOS) {
                dropOldest();
            }
            if (count < 0 || count >= UNDOS) {
                return;
            }
            System.arraycopy(house.purse, 0, purses, count * CREW, CREW);
            System.arraycopy(house.printed, 0, printed, count * SIGNS, SIGNS);
            rollLines[count] = house.rollLines;
            gaps[count] = house.gaps;
            states[count] = house.state;
            count++;
        }

        private void dropOldest() {
            System.arraycopy(purses, CREW, purses, 0, (UNDOS - 1) * CREW);
            System.arraycopy(printed, SIGNS, printed, 0, (UNDOS - 1) * SIGNS);
            System.arraycopy(rollLines, 1, rollLines, 0, UNDOS - 1);
            System.arraycopy(gaps, 1, gaps, 0, UNDOS - 1);
            System.arraycopy(states, 1, states, 0, UNDOS - 1);
            count = UNDOS - 1;
        }

        boolean giveBack(House house) {
            if (count < 1 || count > UNDOS) {
                return false;
            }
            count--;
            System.arraycopy(purses, count * CREW, house.purse, 0, CREW);
            System.arraycopy(printed, count * SIGNS, house.printed, 0, SIGNS);
            house.rollLines = rollLines[count];
            house.gaps = gaps[count];
            house.state = states[count];
            return true;
        }
    }

    /** Says what signs pay and earn by a row, and prints the page. */
    private static final class Press {
        /* Signs and left neighbours spread the pays of a place over so many cells. */
        private static final int CELLS = 32;

        private final House house;
        private final boolean[] able = new boolean[SIGNS];
        private final int[] longs = new int[PAGE];
        private final int[] facts = new int[ASKS];
        private final int[] stack = new int[STACK];
        /* Where fewest signs are sought, the same pays of few places are asked for thousands of times. */
        private final long[] known = new long[CHANGED_PAGE * CELLS];
        private final int[] before = new int[CREW];
        private final int[] after = new int[CREW];

        Press(House house) {
            this.house = house;
            Arrays.fill(known, -1L);
        }

        /** Pays are remembered by all that the law may ask, so only another law makes them wrong. */
        void forgetPays() {
            Arrays.fill(known, -1L);
        }

        /** Must go ahead of all else here when owners, burnt signs or strikes may have changed. */
        void lookOver() {
            for (int s = 0; s < SIGNS; s++) {
                able[s] = house.canPrint(s);
            }
        }

        void lookAt(int sign) {
            if (isSign(sign)) {
                able[sign] = house.canPrint(sign);
            }
        }

        boolean isAble(int sign) {
            return sign >= 0 && sign < SIGNS && able[sign];
        }

        /** Counts the letters that can be printed of each word of a row; from is no place inside a word. */
        void measure(Row row, int from) {
            if (!house.law.asks(ASK_LONG)) {
                return;
            }
            int end = Math.min(row.length, PAGE);
            int begin = Math.max(from, 0);
            int count = 0;
            for (int i = begin; i <= end; i++) {
                if (i < end && isLetter(row.get(i))) {
                    count += isAble(row.get(i)) ? 1 : 0;
                    continue;
                }
                for (int j = begin; j < i; j++) {
                    longs[j] = count;
                }
                if (i < end) {
                    longs[i] = 0;
                }
                begin = i + 1;
                count = 0;
            }
        }

        /** What the sign at a place of a measured row pays. */
        int payAt(Row row, int i) {
            int sign = row.get(i);
            if (i < 0 || i >= PAGE || !isSign(sign)) {
                return 0;
            }
            if (house.law.lines == 0) {
                return 1;
            }
            gatherFacts(row, i, sign);
            int cell = i * CELLS + (sign + facts[ASK_LEFT]) % CELLS;
            if (cell < 0 || cell >= known.length) {
                return house.law.payFor(facts, stack);
            }
            long key = keyOfFacts();
            if (known[cell] >>> 7 != key) {
                known[cell] = key << 7 | house.law.payFor(facts, stack);
            }
            return (int) (known[cell] & 127);
        }

        /** A bound of what a sign of a row can be paid today. */
        int mostPay(int rowLength) {
            facts[ASK_SIGN] = SIGNS;
            facts[ASK_PLACE] = rowLength;
            facts[ASK_LONG] = rowLength;
            facts[ASK_USED] = rowLength;
            facts[ASK_VOWEL] = 1;
            facts[ASK_OWNER] = NO_OWNER;
            facts[ASK_DAY] = house.day;
            facts[ASK_LEFT] = BLANK;
            facts[ASK_FIRST] = 1;
            return house.law.mostPay(facts, stack);
        }

        /** What the law does not ask stays 0, which is quicker and makes more pays the same. */
        private void gatherFacts(Row row, int i, int sign) {
            Law law = house.law;
            int left = i > 0 ? row.get(i - 1) : BLANK;
            int who = house.owner[sign];
            facts[ASK_SIGN] = sign;
            facts[ASK_PLACE] = i;
            facts[ASK_LONG] = law.asks(ASK_LONG) ? longs[i] : 0;
            facts[ASK_USED] = law.asks(ASK_USED) ? countAhead(row, i, sign) : 0;
            facts[ASK_VOWEL] = isVowel(sign) ? 1 : 0;
            facts[ASK_OWNER] = who == NONE ? NO_OWNER : who;
            facts[ASK_DAY] = law.asks(ASK_DAY) ? house.day : 0;
            facts[ASK_LEFT] = law.asks(ASK_LEFT) ? (isAble(left) ? left : BLANK) : 0;
            facts[ASK_FIRST] = isLetter(sign) && !isLetter(left) ? 1 : 0;
        }

        private long keyOfFacts() {
            long key = facts[ASK_DAY];
            key = key << 5 | facts[ASK_SIGN];
            key = key << 6 | facts[ASK_LONG];
            key = key << 6 | facts[ASK_USED];
            key = key << 4 | facts[ASK_OWNER];
            key = key << 5 | facts[ASK_LEFT];
            return key << 1 | facts[ASK_FIRST];
        }

        private static int countAhead(Row row, int i, int sign) {
            int count = 0;
            for (int j = 0; j < i && j < row.places.length; j++) {
                if (row.places[j] == sign) {
                    count++;
                }
            }
            return count;
        }

        private static boolean isVowel(int sign) {
            switch (sign) {
                case 0: return true;
                case 4: return true;
                case 8: return true;
                case 14: return true;
                case 20: return true;
                default: return false;
            }
        }

        /** What an apprentice earns by the places of a row from one on that is not inside a word. */
        int earnsFrom(Row row, int from, int apprentice) {
            measure(row, from);
            int sum = 0;
            for (int i = Math.max(from, 0); i < row.length && i < PAGE; i++) {
                int sign = row.get(i);
                if (isAble(sign) && house.owner[sign] == apprentice) {
                    sum += payAt(row, i);
                }
            }
            return sum;
        }

        int earnsByPage(int apprentice) {
            lookOver();
            return earnsFrom(house.page, 0, apprentice);
        }

        /** What each apprentice earns by a row; into has a place for each. */
        void earnings(Row row, int[] into) {
            measure(row, 0);
            Arrays.fill(into, 0);
            for (int i = 0; i < row.length && i < PAGE; i++) {
                int sign = row.get(i);
                if (isAble(sign)) {
                    int who = house.owner[sign];
                    if (who >= 0 && who < into.length) {
                        into[who] += payAt(row, i);
                    }
                }
            }
        }

        boolean canSet(int word) {
            for (int i = 0; i < house.words.lengthOf(word); i++) {
                if (!isAble(house.words.letter(word, i))) {
                    return false;
                }
            }
            return true;
        }

        int lossByStrike(int apprentice) {
            if (!house.has(apprentice)) {
                return 0;
            }
            lookOver();
            earnings(house.page, before);
            int was = house.strike[apprentice];
            house.strike[apprentice] = 1;
            lookOver();
            earnings(house.page, after);
            house.strike[apprentice] = was;
            int loss = 0;
            for (int a = 0; a < CREW; a++) {
                loss += a == apprentice ? 0 : before[a] - after[a];
            }
            return loss;
        }

        int signsOnPage(int apprentice) {
            lookOver();
            int count = 0;
            for (int i = 0; i < house.page.length; i++) {
                int sign = house.page.get(i);
                if (isAble(sign) && house.owner[sign] == apprentice) {
                    count++;
                }
            }
            return count;
        }

        int printPage() {
            lookOver();
            measure(house.page, 0);
            int count = 0;
            int last = NONE;
            for (int i = 0; i < house.page.length && i < PAGE; i++) {
                int stands = house.page.get(i);
                if (!isSign(stands)) {
                    continue;
                }
                int counts = misprinted(stands, last);
                if (isAble(counts)) {
                    house.book(counts, i, payInstead(i, stands, counts));
                    last = house.owner[counts];
                    count++;
                } else {
                    house.gaps++;
                }
            }
            return count;
        }

        private int misprinted(int stands, int last) {
            if (house.jealousy <= 0) {
                return stands;
            }
            boolean envied = house.draw(1000) < house.jealousy;
            return envied && last != NONE ? house.leastOwned(last, stands) : stands;
        }

        private int payInstead(int i, int stands, int counts) {
            if (stands == counts) {
                return payAt(house.page, i);
            }
            house.page.put(i, counts);
            measure(house.page, 0);
            int pay = payAt(house.page, i);
            house.page.put(i, stands);
            measure(house.page, 0);
            return pay;
        }
    }

    /** The fewest places to be set otherwise so that all eat. */
    private static final class Remedy {
        boolean known;
        final int[] answer = new int[5];
        private final House house;
        private final Press press;
        private final Row row = new Row(CHANGED_PAGE);
        private final int[] choices = new int[CHANGED_PAGE * SIGNS];
        private final int[] choiceCounts = new int[CHANGED_PAGE];
        private final int[] least = new int[CREW];
        private final int[] signsNeeded = new int[CREW];
        private final int[] hands = new int[CREW];
        private final int[] earned = new int[CREW];
        private int hungriest;

        Remedy(House house, Press press) {
            this.house = house;
            this.press = press;
        }

        void seek() {
            known = true;
            Arrays.fill(answer, NONE);
            if (house.page.length > CHANGED_PAGE) {
                return;
            }
            press.lookOver();
            row.take(house.page);
            weighNeeds();
            listChoices();
            if (feedsAll()) {
                answer[0] = 0;
                return;
            }
            for (int p = 0; p < row.length; p++) {
                if (setsOne(p)) {
                    tell(1, p, NONE);
                    return;
                }
            }
            for (int p = 0; p < row.length; p++) {
                int stands = row.get(p);
                for (int q = p + 1; q < row.length; q++) {
                    for (int c = 0; c < choicesAt(p); c++) {
                        row.put(p, choices[p * SIGNS + c]);
                        if (setsOne(q)) {
                            tell(2, p, q);
                            return;
                        }
                    }
                }
                row.put(p, stands);
            }
        }

        private void tell(int count, int p, int q) {
            answer[0] = count;
            answer[1] = p;
            answer[2] = row.get(p);
            if (q != NONE) {
                answer[3] = q;
                answer[4] = row.get(q);
            }
        }

        private void weighNeeds() {
            int most = press.mostPay(row.length);
            for (int a = 0; a < CREW; a++) {
                boolean eats = house.has(a) && house.strike[a] == 0 && house.ownsUnburnt(a);
                least[a] = eats ? house.bread[a] : 0;
                signsNeeded[a] = least[a];
                if (most > 0) {
                    signsNeeded[a] = (least[a] + most - 1) / most;
                }
            }
        }

        /** How many signs more those who must eat need at least, were each paid the most. */
        private int countLacking() {
            Arrays.fill(hands, 0);
            for (int i = 0; i < row.length; i++) {
                int sign = row.get(i);
                if (press.isAble(sign)) {
                    int who = house.owner[sign];
                    if (who >= 0 && who < CREW) {
                        hands[who]++;
                    }
                }
            }
            int lacking = 0;
            for (int a = 0; a < CREW; a++) {
                lacking += Math.max(0, signsNeeded[a] - hands[a]);
            }
            return lacking;
        }

        private boolean isLacked(int sign) {
            int who = press.isAble(sign) ? house.owner[sign] : NONE;
            return who >= 0 && who < CREW && hands[who] < signsNeeded[who];
        }

        /** Who was left hungry by the row before is asked first, for he mostly is again. */
        private boolean feedsAll() {
            if (press.earnsFrom(row, 0, hungriest) < least[hungriest]) {
                return false;
            }
            press.earnings(row, earned);
            for (int a = 0; a < CREW; a++) {
                if (earned[a] < least[a]) {
                    hungriest = a;
                    return false;
                }
            }
            return true;
        }

        /** Nobody is paid for a sign that can't be printed: of such letters the first does for all, of stops too. */
        private void listChoices() {
            for (int i = 0; i < row.length && i < CHANGED_PAGE; i++) {
                int count = 0;
                boolean letter = false;
                boolean stop = false;
                for (int s = 0; s < SIGNS && isSign(row.get(i)); s++) {
                    boolean alike = !press.isAble(s) && (isLetter(s) ? letter : stop);
                    if (s == row.get(i) || alike) {
                        continue;
                    }
                    letter = letter || !press.isAble(s) && isLetter(s);
                    stop = stop || !press.isAble(s) && !isLetter(s);
                    choices[i * SIGNS + count] = s;
                    count++;
                }
                choiceCounts[i] = count;
            }
        }

        /** Sets a place otherwise, so that all eat by the row, or leaves it as it is; hopeless signs are not tried. */
        private boolean setsOne(int place) {
            int stands = row.get(place);
            row.put(place, BLANK);
            int lacking = countLacking();
            for (int c = 0; c < choicesAt(place) && lacking <= 1; c++) {
                int sign = choices[place * SIGNS + c];
                if (lacking == 1 && !isLacked(sign)) {
                    continue;
                }
                row.put(place, sign);
                if (feedsAll()) {
                    return true;
                }
            }
            row.put(place, stands);
            return false;
        }

        private int choicesAt(int place) {
            return place >= 0 && place < CHANGED_PAGE ? choiceCounts[place] : 0;
        }
    }

    /** The words of the list by which an apprentice would earn most. */
    private static final class Basket {
        int buyer = NONE;
        final int[] answer = new int[4];
        private final House house;
        private final Press press;
        private final Row row = new Row(PAGE);

        Basket(House house, Press press) {
            this.house = house;
            this.press = press;
        }

        /** What a word earns never depends on what is set behind it, so each word is weighed as it is laid. */
        void seek(int apprentice) {
            buyer = apprentice;
            Arrays.fill(answer, NONE);
            press.lookOver();
            int count = house.words.count;
            for (int i = 0; i < count; i++) {
                int one = lay(i, 0);
                int endOfOne = row.length;
                weigh(one, i, NONE, NONE);
                for (int j = i + 1; j < count; j++) {
                    int two = one + lay(j, endOfOne);
                    int endOfTwo = row.length;
                    weigh(two, i, j, NONE);
                    for (int k = j + 1; k < count; k++) {
                        weigh(two + lay(k, endOfTwo), i, j, k);
                    }
                }
            }
        }

        private int lay(int word, int from) {
            row.length = from;
            if (from > 0) {
                row.add(BLANK);
            }
            int begin = row.length;
            for (int i = 0; i < house.words.lengthOf(word); i++) {
                row.add(house.words.letter(word, i));
            }
            return press.earnsFrom(row, begin, buyer);
        }

        /** Ways come by rising numbers, so of equals only one with fewer words takes the place. */
        private void weigh(int earned, int i, int j, int k) {
            boolean fewer = j == NONE && answer[2] != NONE || k == NONE && answer[3] != NONE;
            if (earned > answer[0] || earned == answer[0] && fewer) {
                answer[0] = earned;
                answer[1] = i;
                answer[2] = j;
                answer[3] = k;
            }
        }
    }

    /** Couples of signs that might change hands so that both owners earn more by the page. */
    private static final class Barter {
        boolean known;
        final int[] answer = new int[3];
        private final House house;
        private final Press press;
        private final int[] earned = new int[CREW];

        Barter(House house, Press press) {
            this.house = house;
            this.press = press;
        }

        /** Who gets a sign that is not on the page gives up pay for nothing: both signs must be on it. */
        void seek() {
            known = true;
            Arrays.fill(answer, NONE);
            answer[0] = 0;
            press.lookOver();
            press.earnings(house.page, earned);
            for (int a = 0; a < SIGNS; a++) {
                if (!house.page.holds(a)) {
                    continue;
                }
                for (int b = a + 1; b < SIGNS; b++) {
                    if (house.page.holds(b) && isGain(a, b)) {
                        count(a, b);
                    }
                }
            }
        }

        private void count(int a, int b) {
            if (answer[0] == 0) {
                answer[1] = a;
                answer[2] = b;
            }
            answer[0]++;
        }

        private boolean isGain(int a, int b) {
            int one = house.owner[a];
            int other = house.owner[b];
            if (one == other || !house.has(one) || !house.has(other)) {
                return false;
            }
            give(a, other, b, one);
            boolean gain = press.earnsFrom(house.page, 0, one) > earned[one]
                && press.earnsFrom(house.page, 0, other) > earned[other];
            give(a, one, b, other);
            return gain;
        }

        private void give(int a, int toOne, int b, int toOther) {
            house.owner[a] = toOne;
            house.owner[b] = toOther;
            press.lookAt(a);
            press.lookAt(b);
        }
    }
}
