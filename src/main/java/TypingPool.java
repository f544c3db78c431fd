import java.util.Arrays;
import java.util.NoSuchElementException;

/** A pool of typists gone on minute by minute. The promises stand in DOC.md. */
public final class TypingPool {
    public static final int NONE = -1;

    private static final int LAST_MINUTE = 4800;
    private static final int DAY_MINUTES = 480;
    private static final int LONGEST_STEP = 960;
    private static final int LAST_DAY = 9;
    private static final int LAST_KNOWN_DAY = 99;
    private static final int ALL_STYLES = 255;
    private static final int SIXTEEN_BITS = 65535;
    private static final int DEPARTMENTS = 8;

    private static final int MOST_POSTS = 4;
    private static final int MOST_HANDS = 8;
    private static final int MOST_AWAYS = 30;
    private static final int MOST_PIECES = 30;
    private static final int MOST_RULES = 20;
    private static final int MOST_CORRECTIONS = 40;
    private static final int MOST_TEXT = 100;
    private static final int MOST_PLANNED_PIECES = 5;
    private static final int MOST_PLANNED_HANDS = 3;
    private static final int LONGEST_ROW = 8;

    private static final int ORDER = 0;
    private static final int LEAVE = 1;
    private static final int FAULT = 2;
    private static final int PAY = 3;
    private static final int KINDS = 4;

    private static final int NO_PLAN = -2;
    private static final int NO_RULE = -100;

    private final Book book = new Book();
    private final Rules rules = new Rules();
    private final Floor floor = new Floor(book, rules);
    /** Trials go on here, so that what really is stays as it was. */
    private final Floor trial = new Floor(book, rules);
    private final Ledger ledger = new Ledger(book, rules, floor);
    private final Planner planner = new Planner(book, floor);
    private final char[] text = new char[MOST_TEXT];
    private int textLength = 0;
    private final int[] row = new int[LONGEST_ROW];
    private int rowLength = 0;

    public TypingPool() {
    }

    // ---- who and what

    public int post(int minute) {
        if (!within(minute, 0, DAY_MINUTES - 1) || book.postCount >= MOST_POSTS) {
            return NONE;
        }
        book.posts[book.postCount] = minute;
        book.postCount++;
        return book.postCount;
    }

    public int hand(int speed, int styles, int words, int leave) {
        boolean right = within(speed, 10, 200) && within(styles, 0, ALL_STYLES)
            && within(words, 0, SIXTEEN_BITS) && within(leave, 0, 3);
        if (!right || book.handCount >= MOST_HANDS) {
            return NONE;
        }
        int number = book.handCount;
        book.hands[number] = new Hand(speed, styles, leave);
        book.handCount++;
        floor.openHand(number, words);
        return number;
    }

    public int away(int hand, int from, int to) {
        boolean right = book.hasHand(hand) && within(from, floor.now, LAST_MINUTE)
            && to > from && to <= LAST_MINUTE;
        if (!right || book.awayCount >= MOST_AWAYS) {
            return NONE;
        }
        book.addAway(new Away(hand, from, to));
        return book.awayCount;
    }

    public int piece(int department, int style, int lines, int secret, int claim, int comes, int due,
            int words, int copies) {
        boolean right = within(department, 0, DEPARTMENTS - 1) && within(style, 0, 7)
            && within(lines, 1, 400) && within(secret, 0, 3) && within(claim, 0, 9)
            && within(comes, floor.now, LAST_MINUTE) && within(due, comes, LAST_MINUTE)
            && within(words, 0, SIXTEEN_BITS) && within(copies, 0, 6);
        if (!right || book.pieceCount >= MOST_PIECES) {
            return NONE;
        }
        Piece told = new Piece();
        told.department = department;
        told.style = style;
        told.lines = lines;
        told.secret = secret;
        told.claim = claim;
        told.comes = comes;
        told.due = due;
        told.words = words;
        told.copies = copies;
        int number = book.pieceCount;
        book.pieces[number] = told;
        book.pieceCount++;
        floor.openPiece(number, told.allWork());
        return number;
    }

    // ---- rules

    public int sign(int v) {
        if (textLength + 4 > MOST_TEXT) {
            return NONE;
        }
        for (int shift = 24; shift >= 0; shift -= 8) {
            text[textLength] = (char) ((v >>> shift) & 255);
            textLength++;
        }
        return textLength;
    }

    public boolean end(int n) {
        if (n < 0 || n > textLength) {
            return false;
        }
        textLength = n;
        return true;
    }

    public int rule(int kind, int day) {
        boolean right = within(kind, 0, KINDS - 1) && within(day, 0, LAST_DAY);
        if (!right || rules.count >= MOST_RULES) {
            return NO_RULE;
        }
        int length = textLength;
        textLength = 0;
        return rules.tell(kind, day, text, length);
    }

    // ---- the day

    public int step(int n) {
        if (!canGoOn(n, 0)) {
            return NONE;
        }
        floor.runOn(n, null, NONE);
        return floor.now;
    }

    public int of(int hand, int what) throws NoSuchElementException {
        if (!book.hasHand(hand)) {
            throw new NoSuchElementException("no such hand");
        }
        switch (what) {
            case 0:
                return floor.has[hand];
            case 1:
                return floor.words[hand];
            case 2:
                return floor.worked[hand];
            case 3:
                return floor.linesDoneBy(hand);
            case 4:
                return floor.piecesDoneBy(hand);
            case 5:
                return (book.awayMask(floor.now) >> hand) & 1;
            case 6:
                return floor.rate[hand];
            default:
                throw new NoSuchElementException("no such what");
        }
    }

    public int at(int piece, int what) {
        if (!book.hasPiece(piece)) {
            return NONE;
        }
        switch (what) {
            case 0:
                return floor.stateOf(piece);
            case 1:
                return floor.by[piece];
            case 2:
                return floor.taken[piece];
            case 3:
                return floor.done[piece];
            case 4:
                return floor.workLeft[piece];
            case 5:
                return floor.isLate(piece) ? 1 : 0;
            case 6:
                return floor.minutesLate(piece);
            default:
                return NONE;
        }
    }

    public int may(int hand, int piece) {
        if (!book.hasHand(hand) || !book.hasPiece(piece)) {
            return NONE;
        }
        return floor.mayDo(hand, piece, null) ? 1 : 0;
    }

    public int order(int hand, int piece) throws NoSuchElementException {
        if (!book.hasHand(hand) || !book.hasPiece(piece)) {
            throw new NoSuchElementException("no such hand or piece");
        }
        return floor.haste(hand, piece, null);
    }

    public int goes(int piece) {
        if (!book.hasPiece(piece) || floor.done[piece] == NONE) {
            return NONE;
        }
        return book.postFrom(floor.done[piece]);
    }

    public int count(int what) {
        switch (what) {
            case 0:
                return floor.now;
            case 1:
                return book.handCount;
            case 2:
                return book.pieceCount;
            case 3:
                return rules.count;
            case 4:
                return ledger.count;
            case 5:
                return book.awayCount;
            case 6:
                return floor.inState(WAITS);
            case 7:
                return floor.inState(DONE);
            case 8:
                return floor.lateOnes();
            case 9:
                return ledger.as;
            case 10:
                return rowLength;
            case 11:
                return textLength;
            case 12:
                return book.postCount;
            default:
                return NONE;
        }
    }

    // ---- faults and pay

    public int correct(int piece, int day, int t, int r, int a) {
        boolean right = book.hasPiece(piece) && floor.done[piece] != NONE
            && within(day, 0, LAST_KNOWN_DAY) && within(t, 0, 1) && within(r, 0, 1) && within(a, 0, 1);
        if (!right || ledger.count >= MOST_CORRECTIONS) {
            return NONE;
        }
        int number = ledger.count;
        ledger.corrections[number] = new Correction(piece, day, t, r, a);
        ledger.count++;
        return number;
    }

    public boolean undo(int correction, int day) {
        if (!ledger.hasCorrection(correction) || !within(day, 0, LAST_KNOWN_DAY)) {
            return false;
        }
        ledger.corrections[correction].undone = day;
        return true;
    }

    public int as(int day) {
        if (!within(day, 0, LAST_KNOWN_DAY)) {
            return NONE;
        }
        int before = ledger.as;
        ledger.as = day;
        return before;
    }

    public int fault(int correction) {
        if (!ledger.hasCorrection(correction) || !ledger.isKnown(correction)) {
            return NONE;
        }
        return ledger.whose(correction);
    }

    public int faults(int hand, int kind) {
        if (!book.hasHand(hand) || !within(kind, 0, 2)) {
            return NONE;
        }
        return ledger.faultsWith(hand, kind);
    }

    public int pay(int piece) throws NoSuchElementException {
        if (!book.hasPiece(piece)) {
            throw new NoSuchElementException("no such piece");
        }
        return ledger.payFor(piece);
    }

    public int earns(int hand, int day) throws NoSuchElementException {
        // A piece done at 4800 is done on no day (4800 by 480 is 10): only the sum for NONE has it.
        if (!book.hasHand(hand) || !within(day, NONE, LAST_DAY)) {
            throw new NoSuchElementException("no such hand or day");
        }
        return ledger.payOf(hand, day);
    }

    public boolean slips(int piece, int reader, int bits) {
        if (!book.hasPiece(piece) || !within(reader, 0, 1) || !within(bits, 0, SIXTEEN_BITS)) {
            return false;
        }
        if (reader == 0) {
            book.pieces[piece].foundByFirst = bits;
        } else {
            book.pieces[piece].foundBySecond = bits;
        }
        return true;
    }

    public int left(int piece, int what) {
        if (!book.hasPiece(piece)) {
            return NONE;
        }
        Piece read = book.pieces[piece];
        switch (what) {
            case 0:
                return read.slipsLeft();
            case 1:
                return Integer.bitCount(read.foundByFirst | read.foundBySecond);
            case 2:
                return Integer.bitCount(read.foundByFirst & read.foundBySecond);
            default:
                return NONE;
        }
    }

    public int quick(int hand, int what) {
        if (!book.hasHand(hand) || floor.worked[hand] < 1) {
            return NONE;
        }
        switch (what) {
            case 0:
                return floor.linesDoneBy(hand) * 60 / floor.worked[hand];
            case 1:
                return floor.plainMinutesOf(hand) * 1000 / floor.worked[hand];
            default:
                return NONE;
        }
    }

    // ---- departments

    public int claims(int department, int what) {
        if (!within(department, 0, DEPARTMENTS - 1) || !within(what, 0, 4)) {
            return NONE;
        }
        if (what == 0) {
            return floor.waitedIn(department);
        }
        int sum = 0;
        for (int i = 0; i < book.pieceCount; i++) {
            if (book.pieces[i].department == department) {
                sum += floor.countsFor(i, what);
            }
        }
        return sum;
    }

    // ---- plans, trials

    public int plan(int pieces, int hands) {
        int found = planner.seek(pieces, hands);
        if (found < 0) {
            return found;
        }
        rowLength = planner.bestLength;
        System.arraycopy(planner.best, 0, row, 0, rowLength);
        return planner.bestLate;
    }

    public int lateness(int pieces, int hands) {
        int found = planner.seek(pieces, hands);
        return found < 0 ? found : planner.bestLateness;
    }

    public int tried(int rule, int n) {
        boolean isRule = rule == NONE || rules.isTriable(rule);
        if (!isRule || !canGoOn(n, 0)) {
            return NONE;
        }
        trial.takeOver(floor);
        trial.runOn(n, rule == NONE ? null : rules.told[rule], NONE);
        for (int d = 0; d < DEPARTMENTS; d++) {
            row[d] = trial.waitedIn(d);
        }
        rowLength = DEPARTMENTS;
        return trial.lateOnes();
    }

    public int ill(int hand, int n) throws NoSuchElementException {
        if (!book.hasHand(hand) || !canGoOn(n, 1)) {
            throw new NoSuchElementException("no such hand or minutes");
        }
        trial.takeOver(floor);
        trial.runOn(n, null, NONE);
        int well = trial.lateOnes();
        trial.takeOver(floor);
        trial.runOn(n, null, hand);
        return trial.lateOnes() - well;
    }

    public int row(int i) throws NoSuchElementException {
        if (i < 0 || i >= rowLength) {
            throw new NoSuchElementException("no such number");
        }
        return row[i];
    }

    private boolean canGoOn(int n, int least) {
        return within(n, least, LONGEST_STEP) && floor.now + n <= LAST_MINUTE;
    }

    private static boolean within(int value, int least, int most) {
        return value >= least && value <= most;
    }

    /** How many minutes some work takes at a rate, the last one perhaps not full. */
    private static int minutesFor(int work, int rate) {
        return rate < 1 ? 1 : (work + rate - 1) / rate;
    }

    private static final int NOT_COME = 0;
    private static final int WAITS = 1;
    private static final int TAKEN = 2;
    private static final int DONE = 3;

    private static final class Hand {
        final int speed;
        final int styles;
        final int leave;

        Hand(int speed, int styles, int leave) {
            this.speed = speed;
            this.styles = styles;
            this.leave = leave;
        }
    }

    private static final class Away {
        final int hand;
        final int from;
        final int to;

        Away(int hand, int from, int to) {
            this.hand = hand;
            this.from = from;
            this.to = to;
        }
    }

    private static final class Piece {
        int department;
        int style;
        int lines;
        int secret;
        int claim;
        int comes;
        int due;
        int words;
        int copies;
        int foundByFirst;
        int foundBySecond;

        int allWork() {
            return 60 * lines + 2 * lines * copies;
        }

        int unknownTo(int knownWords) {
            return Integer.bitCount(words & ~knownWords);
        }

        int slipsLeft() {
            int both = Integer.bitCount(foundByFirst & foundBySecond);
            if (both == 0) {
                return NONE;
            }
            int onlyFirst = Integer.bitCount(foundByFirst & ~foundBySecond);
            int onlySecond = Integer.bitCount(foundBySecond & ~foundByFirst);
            return onlyFirst * onlySecond / both;
        }
    }

    private static final class Correction {
        final int piece;
        final int day;
        final int t;
        final int r;
        final int a;
        int undone = NONE;

        Correction(int piece, int day, int t, int r, int a) {
            this.piece = piece;
            this.day = day;
            this.t = t;
            this.r = r;
            this.a = a;
        }
    }

    /** What has been told of posts, hands, pieces and when a hand is away. */
    private static final class Book {
        final int[] posts = new int[MOST_POSTS];
        int postCount = 0;
        final Hand[] hands = new Hand[MOST_HANDS];
        int handCount = 0;
        final Piece[] pieces = new Piece[MOST_PIECES];
        int pieceCount = 0;
        /** By the minute from which on, so that one pass tells when work ends. */
        final Away[] aways = new Away[MOST_AWAYS];
        int awayCount = 0;

        boolean hasHand(int hand) {
            return hand >= 0 && hand < handCount;
        }

        boolean hasPiece(int piece) {
            return piece >= 0 && piece < pieceCount;
        }

        void addAway(Away told) {
            int place = awayCount;
            while (place > 0 && aways[place - 1].from > told.from) {
                aways[place] = aways[place - 1];
                place--;
            }
            aways[place] = told;
            awayCount++;
        }

        /** The hands that are away at a minute, as bits. */
        int awayMask(int minute) {
            int mask = 0;
            for (int i = 0; i < awayCount; i++) {
                Away one = aways[i];
                if (one.from <= minute && minute < one.to) {
                    mask |= 1 << one.hand;
                }
            }
            return mask;
        }

        /** The first minute behind one (or the limit) at which a piece comes or a hand goes or is back. */
        int changeBehind(int minute, int limit) {
            int first = limit;
            for (int i = 0; i < pieceCount; i++) {
                first = earlierBehind(minute, pieces[i].comes, first);
            }
            for (int i = 0; i < awayCount; i++) {
                first = earlierBehind(minute, aways[i].from, first);
                first = earlierBehind(minute, aways[i].to, first);
            }
            return first;
        }

        private static int earlierBehind(int minute, int candidate, int first) {
            return candidate > minute && candidate < first ? candidate : first;
        }

        /** The minute at which a hand has worked so many minutes, those not counted that it is away. */
        int minuteAfterWork(int hand, int start, int minutes) {
            int minute = start;
            int rest = minutes;
            for (int i = 0; i < awayCount; i++) {
                Away one = aways[i];
                if (one.hand != hand || one.to <= minute) {
                    continue;
                }
                int free = one.from > minute ? one.from - minute : 0;
                if (free >= rest) {
                    return minute + rest;
                }
                rest -= free;
                minute = one.to;
            }
            return minute + rest;
        }

        /** The first minute of a post at or behind a minute, be it on a day behind the last one. */
        int postFrom(int minute) {
            int midnight = minute - minute % DAY_MINUTES;
            int first = NONE;
            for (int i = 0; i < postCount; i++) {
                int goes = midnight + posts[i];
                if (goes < minute) {
                    goes += DAY_MINUTES;
                }
                if (first == NONE || goes < first) {
                    first = goes;
                }
            }
            return first;
        }
    }

    /** Reads an expression, sign by sign, into a code that has each operator behind its things. */
    private static final class Reader {
        static final int LETTER = 10000;
        static final int OPERATOR = 20000;
        static final char MINUS_AHEAD = '~';
        private static final int MOST_SIGNS = 60;
        private static final int MOST_BRACKETS = 6;
        private static final int MOST_DIGITS = 4;
        private static final int BINDS_COMPARING = 3;
        private static final int BINDS_AHEAD = 6;

        private final int[] code = new int[MOST_SIGNS];
        private int codeLength;
        /** Operators and brackets whose things are not all read yet. */
        private final char[] open = new char[MOST_SIGNS];
        private int openLength;
        private int depth;
        /** Bit by bit for each depth: whether a comparison stands since the last & or |. */
        private int compared;
        private int digits;
        private boolean wantsThing;

        /** NONE, or where the first sign stands that can't stand there. */
        int read(char[] signs, int length, String letters) {
            codeLength = 0;
            openLength = 0;
            depth = 0;
            compared = 0;
            digits = 0;
            wantsThing = true;
            int most = Math.min(Math.min(length, MOST_SIGNS), signs.length);
            for (int i = 0; i < most; i++) {
                boolean stands = wantsThing ? beginsThing(signs[i], letters) : followsThing(signs[i]);
                if (!stands) {
                    return i;
                }
            }
            if (length > MOST_SIGNS) {
                return MOST_SIGNS;
            }
            if (wantsThing || depth > 0) {
                return length;
            }
            close(1);
            return NONE;
        }

        int[] codeRead() {
            return Arrays.copyOf(code, codeLength);
        }

        private boolean beginsThing(char sign, String letters) {
            int letter = letters.indexOf(sign);
            if (isDigit(sign) || letter >= 0) {
                write(letter >= 0 ? LETTER + letter : sign - '0');
                digits = letter >= 0 ? 0 : 1;
                wantsThing = false;
                return true;
            }
            if (sign == '!' || sign == '-') {
                keepOpen(sign == '-' ? MINUS_AHEAD : sign);
                return true;
            }
            if (sign != '(' || depth >= MOST_BRACKETS) {
                return false;
            }
            keepOpen(sign);
            depth++;
            compared &= ~(1 << depth);
            return true;
        }

        private boolean followsThing(char sign) {
            if (isDigit(sign)) {
                return goesOnNumber(sign);
            }
            digits = 0;
            if (sign == ')') {
                return closesBracket();
            }
            int binds = binding(sign);
            if (binds == 0 || binds == BINDS_AHEAD) {
                return false;
            }
            if (binds == BINDS_COMPARING) {
                if (((compared >> depth) & 1) == 1) {
                    return false;
                }
                compared |= 1 << depth;
            } else if (binds < BINDS_COMPARING) {
                compared &= ~(1 << depth);
            }
            close(binds);
            keepOpen(sign);
            wantsThing = true;
            return true;
        }

        private boolean goesOnNumber(char sign) {
            if (digits == 0 || digits >= MOST_DIGITS || codeLength < 1) {
                return false;
            }
            code[codeLength - 1] = code[codeLength - 1] * 10 + (sign - '0');
            digits++;
            return true;
        }

        private boolean closesBracket() {
            if (depth == 0) {
                return false;
            }
            close(1);
            if (openLength > 0) {
                openLength--;
            }
            depth--;
            return true;
        }

        /** Writes the open operators, back to a bracket, that bind as much at least. */
        private void close(int least) {
            while (openLength > 0 && binding(open[openLength - 1]) >= least) {
                openLength--;
                write(OPERATOR + open[openLength]);
            }
        }

        private void write(int word) {
            if (codeLength < code.length) {
                code[codeLength] = word;
                codeLength++;
            }
        }

        private void keepOpen(char sign) {
            if (openLength < open.length) {
                open[openLength] = sign;
                openLength++;
            }
        }

        private static boolean isDigit(char sign) {
            return sign >= '0' && sign <= '9';
        }

        /** 0 for what is no operator. */
        private static int binding(char sign) {
            switch (sign) {
                case '|':
                    return 1;
                case '&':
                    return 2;
                case '<':
                case '>':
                case '=':
                    return BINDS_COMPARING;
                case '+':
                case '-':
                    return 4;
                case '*':
                    return 5;
                case '!':
                case MINUS_AHEAD:
                    return BINDS_AHEAD;
                default:
                    return 0;
            }
        }
    }

    private static final class Rule {
        final int kind;
        final int day;
        final int[] code;

        Rule(int kind, int day, int[] code) {
            this.kind = kind;
            this.day = day;
            this.code = code;
        }
    }

    /** The rules told, those at first, and what a rule gives for letters. */
    private static final class Rules {
        private static final int MOST_LETTERS = 8;

        final Rule[] told = new Rule[MOST_RULES];
        int count = 0;
        /** What each letter of a kind stands for, in the order of lettersOf(). */
        final int[] letters = new int[MOST_LETTERS];
        private final Rule[] atFirst = new Rule[KINDS];
        private final Reader reader = new Reader();
        private final int[] stack = new int[Reader.MOST_SIGNS];

        Rules() {
            for (int kind = 0; kind < KINDS; kind++) {
                char[] signs = textAtFirst(kind).toCharArray();
                reader.read(signs, signs.length, lettersOf(kind));
                atFirst[kind] = new Rule(kind, 0, reader.codeRead());
            }
        }

        private static String lettersOf(int kind) {
            switch (kind) {
                case ORDER:
                    return "cwldspkn";
                case LEAVE:
                    return "svph";
                case FAULT:
                    return "trax";
                default:
                    return "lcsof";
            }
        }

        private static String textAtFirst(int kind) {
            switch (kind) {
                case ORDER:
                    return "9-c";
                case LEAVE:
                    return "v>s|v=s";
                case FAULT:
                    return "(1-t)*(1-a)";
                default:
                    return "l";
            }
        }

        int tell(int kind, int day, char[] signs, int length) {
            int wrong = reader.read(signs, length, lettersOf(kind));
            if (wrong != NONE) {
                return -1 - wrong;
            }
            int number = count;
            told[number] = new Rule(kind, day, reader.codeRead());
            count++;
            return number;
        }

        /** Only the rules that a day goes by can be tried. */
        boolean isTriable(int number) {
            return number >= 0 && number < count
                && (told[number].kind == ORDER || told[number].kind == LEAVE);
        }

        /** The rule of a kind on a day; one that is tried holds in place of all of its kind. */
        Rule holding(int kind, int day, Rule tried) {
            if (tried != null && tried.kind == kind) {
                return tried;
            }
            Rule holds = atFirst[kind];
            for (int i = 0; i < count; i++) {
                Rule one = told[i];
                if (one.kind == kind && one.day <= day && one.day >= holds.day) {
                    holds = one;
                }
            }
            return holds;
        }

        int give(Rule rule) {
            int top = 0;
            for (int i = 0; i < rule.code.length; i++) {
                int word = rule.code[i];
                if (word < Reader.OPERATOR) {
                    if (top >= stack.length) {
                        return 0;
                    }
                    stack[top] = thing(word);
                    top++;
                } else if (word == Reader.OPERATOR + '!' || word == Reader.OPERATOR + Reader.MINUS_AHEAD) {
                    if (top < 1) {
                        return 0;
                    }
                    int below = stack[top - 1];
                    stack[top - 1] = word == Reader.OPERATOR + '!' ? truth(below == 0) : -below;
                } else {
                    if (top < 2) {
                        return 0;
                    }
                    top--;
                    stack[top - 1] = joined(word - Reader.OPERATOR, stack[top - 1], stack[top]);
                }
            }
            return stack[0];
        }

        private int thing(int word) {
            return word < Reader.LETTER ? word : letters[(word - Reader.LETTER) & (MOST_LETTERS - 1)];
        }

        private static int joined(int sign, int a, int b) {
            switch (sign) {
                case '|':
                    return truth(a != 0 || b != 0);
                case '&':
                    return truth(a != 0 && b != 0);
                case '<':
                    return truth(a < b);
                case '>':
                    return truth(a > b);
                case '=':
                    return truth(a == b);
                case '+':
                    return a + b;
                case '-':
                    return a - b;
                default:
                    return a * b;
            }
        }

        private static int truth(boolean holds) {
            return holds ? 1 : 0;
        }
    }

    /** What changes as the minutes go on: who has which piece, and how far it is. */
    private static final class Floor {
        private final Book book;
        private final Rules rules;
        int now = 0;
        final int[] has = new int[MOST_HANDS];
        final int[] rate = new int[MOST_HANDS];
        final int[] words = new int[MOST_HANDS];
        final int[] worked = new int[MOST_HANDS];
        final int[] by = new int[MOST_PIECES];
        final int[] taken = new int[MOST_PIECES];
        final int[] done = new int[MOST_PIECES];
        final int[] workLeft = new int[MOST_PIECES];
        /** 1 if the hand knew all words of the piece when it took it. */
        final int[] knew = new int[MOST_PIECES];

        Floor(Book book, Rules rules) {
            this.book = book;
            this.rules = rules;
        }

        void openHand(int hand, int knownWords) {
            has[hand] = NONE;
            rate[hand] = NONE;
            words[hand] = knownWords;
            worked[hand] = 0;
        }

        void openPiece(int piece, int work) {
            by[piece] = NONE;
            taken[piece] = NONE;
            done[piece] = NONE;
            workLeft[piece] = work;
            knew[piece] = 0;
        }

        void takeOver(Floor other) {
            now = other.now;
            System.arraycopy(other.has, 0, has, 0, MOST_HANDS);
            System.arraycopy(other.rate, 0, rate, 0, MOST_HANDS);
            System.arraycopy(other.words, 0, words, 0, MOST_HANDS);
            System.arraycopy(other.worked, 0, worked, 0, MOST_HANDS);
            System.arraycopy(other.by, 0, by, 0, MOST_PIECES);
            System.arraycopy(other.taken, 0, taken, 0, MOST_PIECES);
            System.arraycopy(other.done, 0, done, 0, MOST_PIECES);
            System.arraycopy(other.workLeft, 0, workLeft, 0, MOST_PIECES);
            System.arraycopy(other.knew, 0, knew, 0, MOST_PIECES);
        }

        /**
         * Goes on, with a rule tried (or null) and one hand ill (or NONE). Minutes in which
         * nobody can take or end anything are gone through in one stretch, as they are all alike.
         */
        void runOn(int minutes, Rule tried, int ill) {
            int end = now + minutes;
            for (int i = 0; i < minutes && now < end; i++) {
                int away = book.awayMask(now) | (ill == NONE ? 0 : 1 << ill);
                takeAll(away, tried);
                int stretch = changeFrom(away, end) - now;
                workAll(away, stretch);
                now += stretch;
            }
        }

        private void takeAll(int away, Rule tried) {
            for (int h = 0; h < book.handCount; h++) {
                if (((away >> h) & 1) == 0 && has[h] == NONE) {
                    int piece = firstFor(h, tried);
                    if (piece != NONE) {
                        take(h, piece);
                    }
                }
            }
        }

        private int firstFor(int hand, Rule tried) {
            int first = NONE;
            int least = 0;
            for (int p = 0; p < book.pieceCount; p++) {
                if (stateOf(p) == WAITS && mayDo(hand, p, tried)) {
                    int value = haste(hand, p, tried);
                    if (first == NONE || value < least) {
                        first = p;
                        least = value;
                    }
                }
            }
            return first;
        }

        private void take(int hand, int piece) {
            has[hand] = piece;
            rate[hand] = rateFor(hand, piece, words[hand]);
            by[piece] = hand;
            taken[piece] = now;
            knew[piece] = book.pieces[piece].unknownTo(words[hand]) == 0 ? 1 : 0;
        }

        int rateFor(int hand, int piece, int knownWords) {
            return Math.max(5, book.hands[hand].speed - 5 * book.pieces[piece].unknownTo(knownWords));
        }

        /** Up to which minute all are as now: who is there, what has come, which day's rules hold. */
        private int changeFrom(int away, int end) {
            int nextDay = now - now % DAY_MINUTES + DAY_MINUTES;
            int change = book.changeBehind(now, Math.min(end, nextDay));
            for (int h = 0; h < book.handCount; h++) {
                if (isBusy(h, away)) {
                    change = Math.min(change, now + minutesFor(workLeft[has[h]], rate[h]));
                }
            }
            return change;
        }

        private boolean isBusy(int hand, int away) {
            return ((away >> hand) & 1) == 0 && book.hasPiece(has[hand]);
        }

        private void workAll(int away, int minutes) {
            for (int h = 0; h < book.handCount; h++) {
                if (isBusy(h, away)) {
                    int piece = has[h];
                    worked[h] += minutes;
                    workLeft[piece] -= rate[h] * minutes;
                    if (workLeft[piece] <= 0) {
                        finish(h, piece, now + minutes);
                    }
                }
            }
        }

        private void finish(int hand, int piece, int minute) {
            workLeft[piece] = 0;
            done[piece] = minute;
            words[hand] |= book.pieces[piece].words;
            has[hand] = NONE;
            rate[hand] = NONE;
        }

        int today() {
            return now / DAY_MINUTES;
        }

        boolean mayDo(int hand, int piece, Rule tried) {
            Hand one = book.hands[hand];
            Piece asked = book.pieces[piece];
            if (((one.styles >> asked.style) & 1) == 0) {
                return false;
            }
            int[] letters = rules.letters;
            letters[0] = asked.secret;
            letters[1] = one.leave;
            letters[2] = asked.department;
            letters[3] = hand;
            return rules.give(rules.holding(LEAVE, today(), tried)) != 0;
        }

        /** What the rule of order gives. */
        int haste(int hand, int piece, Rule tried) {
            Piece asked = book.pieces[piece];
            int[] letters = rules.letters;
            letters[0] = asked.claim;
            letters[1] = now - asked.comes;
            letters[2] = asked.lines;
            letters[3] = asked.due - now;
            letters[4] = asked.secret;
            letters[5] = asked.department;
            letters[6] = asked.unknownTo(words[hand]);
            letters[7] = waitingIn(asked.department);
            return rules.give(rules.holding(ORDER, today(), tried));
        }

        private int waitingIn(int department) {
            int sum = 0;
            for (int p = 0; p < book.pieceCount; p++) {
                if (book.pieces[p].department == department && stateOf(p) == WAITS) {
                    sum++;
                }
            }
            return sum;
        }

        int stateOf(int piece) {
            if (done[piece] != NONE) {
                return DONE;
            }
            if (taken[piece] != NONE) {
                return TAKEN;
            }
            return book.pieces[piece].comes <= now ? WAITS : NOT_COME;
        }

        int inState(int state) {
            int sum = 0;
            for (int p = 0; p < book.pieceCount; p++) {
                if (stateOf(p) == state) {
                    sum++;
                }
            }
            return sum;
        }

        int minutesLate(int piece) {
            int asOf = done[piece] == NONE ? now : done[piece];
            return Math.max(0, asOf - book.pieces[piece].due);
        }

        boolean isLate(int piece) {
            return minutesLate(piece) > 0;
        }

        int lateOnes() {
            int sum = 0;
            for (int p = 0; p < book.pieceCount; p++) {
                if (isLate(p)) {
                    sum++;
                }
            }
            return sum;
        }

        boolean isDoneBy(int piece, int hand) {
            return done[piece] != NONE && by[piece] == hand;
        }

        int linesDoneBy(int hand) {
            int sum = 0;
            for (int p = 0; p < book.pieceCount; p++) {
                if (isDoneBy(p, hand)) {
                    sum += book.pieces[p].lines;
                }
            }
            return sum;
        }

        int piecesDoneBy(int hand) {
            int sum = 0;
            for (int p = 0; p < book.pieceCount; p++) {
                if (isDoneBy(p, hand)) {
                    sum++;
                }
            }
            return sum;
        }

        /** The minutes that one of speed 60 who knows all words needs for what a hand has done. */
        int plainMinutesOf(int hand) {
            int sum = 0;
            for (int p = 0; p < book.pieceCount; p++) {
                if (isDoneBy(p, hand)) {
                    sum += minutesFor(book.pieces[p].allWork(), 60);
                }
            }
            return sum;
        }

        int waitedIn(int department) {
            int sum = 0;
            for (int p = 0; p < book.pieceCount; p++) {
                if (book.pieces[p].department == department && taken[p] != NONE) {
                    sum += taken[p] - book.pieces[p].comes;
                }
            }
            return sum;
        }

        /** What one piece adds to claims(), from 1 on. */
        int countsFor(int piece, int what) {
            Piece asked = book.pieces[piece];
            switch (what) {
                case 1:
                    return 1;
                case 2:
                    return isLate(piece) ? 1 : 0;
                case 3:
                    return asked.claim >= 7 && asked.due - asked.comes >= DAY_MINUTES ? 1 : 0;
                default:
                    return asked.comes / DAY_MINUTES == today() ? asked.lines : 0;
            }
        }
    }

    /** Corrections, whose fault each was, and pay. */
    private static final class Ledger {
        private static final int HANDS_FAULT = 1;

        private final Book book;
        private final Rules rules;
        private final Floor floor;
        final Correction[] corrections = new Correction[MOST_CORRECTIONS];
        int count = 0;
        int as = LAST_KNOWN_DAY;

        Ledger(Book book, Rules rules, Floor floor) {
            this.book = book;
            this.rules = rules;
            this.floor = floor;
        }

        boolean hasCorrection(int correction) {
            return correction >= 0 && correction < count;
        }

        boolean isKnown(int correction) {
            Correction one = corrections[correction];
            return one.day <= as && (one.undone == NONE || one.undone > as);
        }

        /** 0 the author's, 1 the hand's, 2 the reader's. */
        int whose(int correction) {
            Correction one = corrections[correction];
            int[] letters = rules.letters;
            letters[0] = one.t;
            letters[1] = one.r;
            letters[2] = one.a;
            letters[3] = floor.knew[one.piece];
            int given = rules.give(rules.holding(FAULT, one.day, null));
            return given == 1 || given == 2 ? given : 0;
        }

        int faultsWith(int hand, int kind) {
            int sum = 0;
            for (int p = 0; p < book.pieceCount; p++) {
                if (floor.isDoneBy(p, hand)) {
                    sum += faultsOn(p, kind);
                }
            }
            return sum;
        }

        private int faultsOn(int piece, int kind) {
            int sum = 0;
            for (int c = 0; c < count; c++) {
                if (corrections[c].piece == piece && isKnown(c) && whose(c) == kind) {
                    sum++;
                }
            }
            return sum;
        }

        int payFor(int piece) {
            if (floor.done[piece] == NONE) {
                return 0;
            }
            // Asked ahead of the letters, as it goes by letters too.
            int handsFaults = faultsOn(piece, HANDS_FAULT);
            Piece asked = book.pieces[piece];
            int[] letters = rules.letters;
            letters[0] = asked.lines;
            letters[1] = asked.copies;
            letters[2] = asked.secret;
            letters[3] = floor.minutesLate(piece);
            letters[4] = handsFaults;
            return rules.give(rules.holding(PAY, floor.done[piece] / DAY_MINUTES, null));
        }

        /** The pay of a hand's pieces done on a day, or on all (NONE). */
        int payOf(int hand, int day) {
            int sum = 0;
            for (int p = 0; p < book.pieceCount; p++) {
                boolean counts = floor.isDoneBy(p, hand)
                    && (day == NONE || floor.done[p] / DAY_MINUTES == day);
                if (counts) {
                    sum += payFor(p);
                }
            }
            return sum;
        }
    }

    /** Goes through all plans of a few pieces to a few hands. */
    private static final class Planner {
        private final Book book;
        private final Floor floor;
        private final int[] pieces = new int[MOST_PLANNED_PIECES];
        private int pieceCount;
        private final int[] hands = new int[MOST_PLANNED_HANDS];
        private int handCount;
        /** For each hand the pieces that it may do, as bits by their place in pieces. */
        private final int[] allowed = new int[MOST_PLANNED_HANDS];
        private final int[] current = new int[LONGEST_ROW];
        final int[] best = new int[LONGEST_ROW];
        int bestLength;
        int bestLate;
        int bestLateness;
        private boolean found;

        Planner(Book book, Floor floor) {
            this.book = book;
            this.floor = floor;
        }

        /** 0 if best tells the best plan now; else NONE or NO_PLAN. */
        int seek(int pieceBits, int handBits) {
            if (!listPieces(pieceBits) || !listHands(handBits)) {
                return NONE;
            }
            int all = (1 << pieceCount) - 1;
            if (allowAll() != all) {
                return NO_PLAN;
            }
            found = false;
            bestLength = 0;
            bestLate = 0;
            bestLateness = 0;
            beginHand(0, all, 0, 0, 0);
            return 0;
        }

        private boolean listPieces(int bits) {
            pieceCount = 0;
            for (int p = 0; p < 32; p++) {
                if (((bits >>> p) & 1) == 1) {
                    boolean fits = book.hasPiece(p) && floor.stateOf(p) == WAITS
                        && pieceCount < MOST_PLANNED_PIECES;
                    if (!fits) {
                        return false;
                    }
                    pieces[pieceCount] = p;
                    pieceCount++;
                }
            }
            return pieceCount > 0;
        }

        private boolean listHands(int bits) {
            handCount = 0;
            for (int h = 0; h < 32; h++) {
                if (((bits >>> h) & 1) == 1) {
                    if (!book.hasHand(h) || handCount >= MOST_PLANNED_HANDS) {
                        return false;
                    }
                    hands[handCount] = h;
                    handCount++;
                }
            }
            return handCount > 0;
        }

        /** Which pieces some hand may do, as bits by their place. */
        private int allowAll() {
            int some = 0;
            for (int h = 0; h < handCount; h++) {
                allowed[h] = 0;
                for (int p = 0; p < pieceCount; p++) {
                    if (floor.mayDo(hands[h], pieces[p], null)) {
                        allowed[h] |= 1 << p;
                    }
                }
                some |= allowed[h];
            }
            return some;
        }

        /** A hand's row begins when it has done what it has. */
        private void beginHand(int place, int rest, int late, int lateness, int length) {
            if (place >= handCount) {
                if (rest == 0) {
                    keep(late, lateness, length);
                }
                return;
            }
            int hand = hands[place];
            int minute = floor.now;
            int words = floor.words[hand];
            int piece = floor.has[hand];
            if (book.hasPiece(piece)) {
                int minutes = minutesFor(floor.workLeft[piece], floor.rate[hand]);
                minute = book.minuteAfterWork(hand, minute, minutes);
                words |= book.pieces[piece].words;
            }
            goOn(place, rest, minute, words, late, lateness, length);
        }

        /**
         * Goes through all rows that begin as current does, the first ones first: NONE, which
         * ends a hand's row, is the least number. Each level puts one number, eight at most.
         */
        private void goOn(int place, int rest, int minute, int words, int late, int lateness, int length) {
            if (length >= LONGEST_ROW || place >= handCount || !isBetter(late, lateness)) {
                return;
            }
            current[length] = NONE;
            beginHand(place + 1, rest, late, lateness, length + 1);
            int hand = hands[place];
            for (int i = 0; i < pieceCount; i++) {
                if (((rest & allowed[place]) >> i & 1) == 1) {
                    int piece = pieces[i];
                    Piece next = book.pieces[piece];
                    int minutes = minutesFor(next.allWork(), floor.rateFor(hand, piece, words));
                    int done = book.minuteAfterWork(hand, minute, minutes);
                    int behind = Math.max(0, done - next.due);
                    current[length] = piece;
                    goOn(place, rest & ~(1 << i), done, words | next.words,
                        late + (behind > 0 ? 1 : 0), lateness + behind, length + 1);
                }
            }
        }

        /** What is late stays so as a row grows, so that a worse beginning can be left. */
        private boolean isBetter(int late, int lateness) {
            return !found || late < bestLate || (late == bestLate && lateness < bestLateness);
        }

        private void keep(int late, int lateness, int length) {
            if (isBetter(late, lateness)) {
                found = true;
                bestLate = late;
                bestLateness = lateness;
                bestLength = length;
                System.arraycopy(current, 0, best, 0, length);
            }
        }
    }
}
