import java.util.ArrayList;
import java.util.Arrays;
import java.util.List;
import java.util.NoSuchElementException;

/**
 * The document written down a second time, as naively as can be: every minute is gone through one
 * by one, texts are worked out from their signs at each asking, all plans are listed and sorted.
 * RandomRunsTest holds TypingPool against it.
 */
final class NaivePool {
    static final class Typist {
        int speed, styles, words, leave, worked, piece = -1, rate = -1;

        Typist copy() {
            Typist t = new Typist();
            t.speed = speed;
            t.styles = styles;
            t.words = words;
            t.leave = leave;
            t.worked = worked;
            t.piece = piece;
            t.rate = rate;
            return t;
        }
    }

    static final class Letter {
        int department, style, lines, secret, claim, comes, due, words, copies;
        int hand = -1, taken = -1, done = -1, left;
        boolean knew;
        int[] slips = new int[2];

        Letter copy() {
            Letter l = new Letter();
            l.department = department;
            l.style = style;
            l.lines = lines;
            l.secret = secret;
            l.claim = claim;
            l.comes = comes;
            l.due = due;
            l.words = words;
            l.copies = copies;
            l.hand = hand;
            l.taken = taken;
            l.done = done;
            l.left = left;
            l.knew = knew;
            l.slips = slips.clone();
            return l;
        }
    }

    static final String[] LETTERS = {"cwldspkn", "svph", "trax", "lcsof"};
    static final String[] FIRST = {"9-c", "v>s|v=s", "(1-t)*(1-a)", "l"};

    List<Integer> posts = new ArrayList<>();
    List<Typist> hands = new ArrayList<>();
    List<int[]> aways = new ArrayList<>();
    List<Letter> pieces = new ArrayList<>();
    List<Object[]> rules = new ArrayList<>();
    List<int[]> corrections = new ArrayList<>();
    StringBuilder text = new StringBuilder();
    List<Integer> row = new ArrayList<>();
    int now = 0;
    int as = 99;
    int instead = -1;
    int illHand = -1;

    private static boolean in(int v, int a, int b) {
        return a <= v && v <= b;
    }

    private boolean isHand(int h) {
        return in(h, 0, hands.size() - 1);
    }

    private boolean isPiece(int p) {
        return in(p, 0, pieces.size() - 1);
    }

    int post(int minute) {
        if (!in(minute, 0, 479) || posts.size() == 4) {
            return -1;
        }
        posts.add(minute);
        return posts.size();
    }

    int hand(int speed, int styles, int words, int leave) {
        if (!in(speed, 10, 200) || !in(styles, 0, 255) || !in(words, 0, 65535) || !in(leave, 0, 3)
            || hands.size() == 8) {
            return -1;
        }
        Typist t = new Typist();
        t.speed = speed;
        t.styles = styles;
        t.words = words;
        t.leave = leave;
        hands.add(t);
        return hands.size() - 1;
    }

    int away(int hand, int from, int to) {
        if (!isHand(hand) || from < now || to <= from || to > 4800 || aways.size() == 30) {
            return -1;
        }
        aways.add(new int[] {hand, from, to});
        return aways.size();
    }

    int piece(int department, int style, int lines, int secret, int claim, int comes, int due, int words,
            int copies) {
        if (!in(department, 0, 7) || !in(style, 0, 7) || !in(lines, 1, 400) || !in(secret, 0, 3)
            || !in(claim, 0, 9) || !in(comes, now, 4800) || !in(due, comes, 4800) || !in(words, 0, 65535)
            || !in(copies, 0, 6) || pieces.size() == 30) {
            return -1;
        }
        Letter l = new Letter();
        l.department = department;
        l.style = style;
        l.lines = lines;
        l.secret = secret;
        l.claim = claim;
        l.comes = comes;
        l.due = due;
        l.words = words;
        l.copies = copies;
        l.left = work(l);
        pieces.add(l);
        return pieces.size() - 1;
    }

    static int work(Letter l) {
        int work = 60 * l.lines;
        for (int i = 0; i < l.copies; i++) {
            work += 2 * l.lines;
        }
        return work;
    }

    int sign(int v) {
        if (text.length() > 96) {
            return -1;
        }
        for (int i = 3; i >= 0; i--) {
            text.append((char) (v >> (8 * i) & 0xff));
        }
        return text.length();
    }

    boolean end(int n) {
        if (!in(n, 0, text.length())) {
            return false;
        }
        text.setLength(n);
        return true;
    }

    int rule(int kind, int day) {
        if (!in(kind, 0, 3) || !in(day, 0, 9) || rules.size() == 20) {
            return -100;
        }
        String t = text.toString();
        text.setLength(0);
        int wrong = firstWrong(t, LETTERS[kind]);
        if (wrong >= 0) {
            return -1 - wrong;
        }
        rules.add(new Object[] {kind, day, t});
        return rules.size() - 1;
    }

    // ---- texts: whether signs could go on is asked anew for each beginning

    static int firstWrong(String t, String letters) {
        for (int n = 1; n <= Math.min(60, t.length()); n++) {
            if (!couldGoOn(t.substring(0, n), letters)) {
                return n - 1;
            }
        }
        if (t.length() > 60) {
            return 60;
        }
        return isExpression(t, letters) ? -1 : t.length();
    }

    /** A beginning can go on if one of two endings makes an expression of it. */
    static boolean couldGoOn(String t, String letters) {
        int open = 0;
        for (char c : t.toCharArray()) {
            open += c == '(' ? 1 : c == ')' ? -1 : 0;
        }
        if (open < 0) {
            return false;
        }
        String close = ")".repeat(open);
        return isExpression(t + close, letters) || isExpression(t + "1" + close, letters);
    }

    static boolean isExpression(String t, String letters) {
        Descent d = new Descent(t, letters, null);
        d.or(0);
        return !d.broken && d.at == t.length();
    }

    static int value(String t, String letters, int[] values) {
        Descent d = new Descent(t, letters, values);
        return d.or(0);
    }

    static final class Descent {
        final String t;
        final String letters;
        final int[] values;
        int at = 0;
        boolean broken = false;

        Descent(String t, String letters, int[] values) {
            this.t = t;
            this.letters = letters;
            this.values = values;
        }

        char next() {
            return at < t.length() ? t.charAt(at) : 0;
        }

        int or(int depth) {
            int v = and(depth);
            while (!broken && next() == '|') {
                at++;
                int w = and(depth);
                v = v != 0 | w != 0 ? 1 : 0;
            }
            return v;
        }

        int and(int depth) {
            int v = comparison(depth);
            while (!broken && next() == '&') {
                at++;
                int w = comparison(depth);
                v = v != 0 & w != 0 ? 1 : 0;
            }
            return v;
        }

        int comparison(int depth) {
            int v = sum(depth);
            char c = next();
            if (!broken && (c == '<' || c == '>' || c == '=')) {
                at++;
                int w = sum(depth);
                boolean holds = c == '<' ? v < w : c == '>' ? v > w : v == w;
                return holds ? 1 : 0;
            }
            return v;
        }

        int sum(int depth) {
            int v = product(depth);
            while (!broken && (next() == '+' || next() == '-')) {
                char c = next();
                at++;
                int w = product(depth);
                v = c == '+' ? v + w : v - w;
            }
            return v;
        }

        int product(int depth) {
            int v = ahead(depth);
            while (!broken && next() == '*') {
                at++;
                v *= ahead(depth);
            }
            return v;
        }

        int ahead(int depth) {
            if (next() == '!') {
                at++;
                return ahead(depth) == 0 ? 1 : 0;
            }
            if (next() == '-') {
                at++;
                return -ahead(depth);
            }
            return thing(depth);
        }

        int thing(int depth) {
            char c = next();
            if (c == '(') {
                at++;
                int v = depth == 6 ? fail() : or(depth + 1);
                if (next() != ')') {
                    return fail();
                }
                at++;
                return v;
            }
            if (c >= '0' && c <= '9') {
                int from = at;
                while (next() >= '0' && next() <= '9') {
                    at++;
                }
                return at - from > 4 ? fail() : Integer.parseInt(t.substring(from, at));
            }
            int i = c == 0 ? -1 : letters.indexOf(c);
            if (i < 0) {
                return fail();
            }
            at++;
            return values == null ? 0 : values[i];
        }

        int fail() {
            broken = true;
            return 0;
        }
    }

    int gives(int kind, int day, int... values) {
        String t = FIRST[kind];
        int from = -1;
        for (Object[] r : rules) {
            if ((int) r[0] == kind && (int) r[1] <= day && (int) r[1] >= from) {
                from = (int) r[1];
                t = (String) r[2];
            }
        }
        if (instead >= 0 && (int) rules.get(instead)[0] == kind) {
            t = (String) rules.get(instead)[2];
        }
        return value(t, LETTERS[kind], values);
    }

    // ---- the day

    private boolean isAway(int h, int minute) {
        for (int[] a : aways) {
            if (a[0] == h && a[1] <= minute && minute < a[2]) {
                return true;
            }
        }
        return h == illHand;
    }

    private boolean waits(Letter l) {
        return l.comes <= now && l.taken < 0;
    }

    private boolean mayDo(int h, Letter l) {
        Typist t = hands.get(h);
        return (t.styles >> l.style & 1) == 1
            && gives(1, now / 480, l.secret, t.leave, l.department, h) != 0;
    }

    private static int unknown(int words, int known) {
        int n = 0;
        for (int i = 0; i < 16; i++) {
            if ((words >> i & 1) == 1 && (known >> i & 1) == 0) {
                n++;
            }
        }
        return n;
    }

    private int ordered(int h, Letter l) {
        int n = 0;
        for (Letter o : pieces) {
            if (o.department == l.department && waits(o)) {
                n++;
            }
        }
        return gives(0, now / 480, l.claim, now - l.comes, l.lines, l.due - now, l.secret, l.department,
            unknown(l.words, hands.get(h).words), n);
    }

    private static int rate(Typist t, Letter l, int known) {
        int r = t.speed - 5 * unknown(l.words, known);
        return r < 5 ? 5 : r;
    }

    private void minute() {
        for (int h = 0; h < hands.size(); h++) {
            Typist t = hands.get(h);
            if (isAway(h, now) || t.piece >= 0) {
                continue;
            }
            int best = -1;
            for (int p = 0; p < pieces.size(); p++) {
                Letter l = pieces.get(p);
                if (waits(l) && mayDo(h, l) && (best < 0 || ordered(h, l) < ordered(h, pieces.get(best)))) {
                    best = p;
                }
            }
            if (best >= 0) {
                Letter l = pieces.get(best);
                t.piece = best;
                t.rate = rate(t, l, t.words);
                l.hand = h;
                l.taken = now;
                l.knew = unknown(l.words, t.words) == 0;
            }
        }
        for (int h = 0; h < hands.size(); h++) {
            Typist t = hands.get(h);
            if (isAway(h, now) || t.piece < 0) {
                continue;
            }
            Letter l = pieces.get(t.piece);
            t.worked++;
            l.left = Math.max(0, l.left - t.rate);
            if (l.left == 0) {
                l.done = now + 1;
                t.words |= l.words;
                t.piece = -1;
                t.rate = -1;
            }
        }
        now++;
    }

    int step(int n) {
        if (!in(n, 0, 960) || now + n > 4800) {
            return -1;
        }
        for (int i = 0; i < n; i++) {
            minute();
        }
        return now;
    }

    int of(int hand, int what) {
        if (!isHand(hand) || !in(what, 0, 6)) {
            throw new NoSuchElementException();
        }
        Typist t = hands.get(hand);
        int lines = 0;
        int done = 0;
        for (Letter l : pieces) {
            if (l.hand == hand && l.done >= 0) {
                lines += l.lines;
                done++;
            }
        }
        return new int[] {t.piece, t.words, t.worked, lines, done, isAway(hand, now) ? 1 : 0, t.rate}[what];
    }

    private int minutesLate(Letter l) {
        return Math.max(0, (l.done < 0 ? now : l.done) - l.due);
    }

    int at(int piece, int what) {
        if (!isPiece(piece) || !in(what, 0, 6)) {
            return -1;
        }
        Letter l = pieces.get(piece);
        int state = l.done >= 0 ? 3 : l.taken >= 0 ? 2 : l.comes <= now ? 1 : 0;
        int late = minutesLate(l);
        return new int[] {state, l.hand, l.taken, l.done, l.left, late > 0 ? 1 : 0, late}[what];
    }

    int may(int hand, int piece) {
        if (!isHand(hand) || !isPiece(piece)) {
            return -1;
        }
        return mayDo(hand, pieces.get(piece)) ? 1 : 0;
    }

    int order(int hand, int piece) {
        if (!isHand(hand) || !isPiece(piece)) {
            throw new NoSuchElementException();
        }
        return ordered(hand, pieces.get(piece));
    }

    int goes(int piece) {
        if (!isPiece(piece) || pieces.get(piece).done < 0 || posts.isEmpty()) {
            return -1;
        }
        int m = pieces.get(piece).done;
        while (!posts.contains(m % 480)) {
            m++;
        }
        return m;
    }

    private int late() {
        int n = 0;
        for (Letter l : pieces) {
            if (minutesLate(l) > 0) {
                n++;
            }
        }
        return n;
    }

    int count(int what) {
        int waiting = 0;
        int done = 0;
        for (int p = 0; p < pieces.size(); p++) {
            waiting += at(p, 0) == 1 ? 1 : 0;
            done += at(p, 0) == 3 ? 1 : 0;
        }
        int[] all = {now, hands.size(), pieces.size(), rules.size(), corrections.size(), aways.size(), waiting,
            done, late(), as, row.size(), text.length(), posts.size()};
        return in(what, 0, 12) ? all[what] : -1;
    }

    // ---- faults and pay

    int correct(int piece, int day, int t, int r, int a) {
        if (!isPiece(piece) || pieces.get(piece).done < 0 || !in(day, 0, 99) || !in(t, 0, 1) || !in(r, 0, 1)
            || !in(a, 0, 1) || corrections.size() == 40) {
            return -1;
        }
        corrections.add(new int[] {piece, day, t, r, a, 1000});
        return corrections.size() - 1;
    }

    boolean undo(int correction, int day) {
        if (!in(correction, 0, corrections.size() - 1) || !in(day, 0, 99)) {
            return false;
        }
        corrections.get(correction)[5] = day;
        return true;
    }

    int as(int day) {
        if (!in(day, 0, 99)) {
            return -1;
        }
        int was = as;
        as = day;
        return was;
    }

    int fault(int correction) {
        if (!in(correction, 0, corrections.size() - 1)) {
            return -1;
        }
        int[] c = corrections.get(correction);
        if (c[1] > as || c[5] <= as) {
            return -1;
        }
        int v = gives(2, c[1], c[2], c[3], c[4], pieces.get(c[0]).knew ? 1 : 0);
        return v == 1 ? 1 : v == 2 ? 2 : 0;
    }

    int faults(int hand, int kind) {
        if (!isHand(hand) || !in(kind, 0, 2)) {
            return -1;
        }
        int n = 0;
        for (int c = 0; c < corrections.size(); c++) {
            if (pieces.get(corrections.get(c)[0]).hand == hand && fault(c) == kind) {
                n++;
            }
        }
        return n;
    }

    int pay(int piece) {
        if (!isPiece(piece)) {
            throw new NoSuchElementException();
        }
        Letter l = pieces.get(piece);
        if (l.done < 0) {
            return 0;
        }
        int f = 0;
        for (int c = 0; c < corrections.size(); c++) {
            if (corrections.get(c)[0] == piece && fault(c) == 1) {
                f++;
            }
        }
        return gives(3, l.done / 480, l.lines, l.copies, l.secret, minutesLate(l), f);
    }

    int earns(int hand, int day) {
        if (!isHand(hand) || !in(day, -1, 9)) {
            throw new NoSuchElementException();
        }
        int sum = 0;
        for (int p = 0; p < pieces.size(); p++) {
            Letter l = pieces.get(p);
            if (l.hand == hand && l.done >= 0 && (day == -1 || l.done / 480 == day)) {
                sum += pay(p);
            }
        }
        return sum;
    }

    boolean slips(int piece, int reader, int bits) {
        if (!isPiece(piece) || !in(reader, 0, 1) || !in(bits, 0, 65535)) {
            return false;
        }
        pieces.get(piece).slips[reader] = bits;
        return true;
    }

    int left(int piece, int what) {
        if (!isPiece(piece) || !in(what, 0, 2)) {
            return -1;
        }
        int[] n = new int[4];
        for (int i = 0; i < 16; i++) {
            n[(pieces.get(piece).slips[0] >> i & 1) + 2 * (pieces.get(piece).slips[1] >> i & 1)]++;
        }
        return what == 1 ? 16 - n[0] : what == 2 ? n[3] : n[3] == 0 ? -1 : n[1] * n[2] / n[3];
    }

    int quick(int hand, int what) {
        if (!isHand(hand) || !in(what, 0, 1) || hands.get(hand).worked == 0) {
            return -1;
        }
        int lines = 0;
        int minutes = 0;
        for (Letter l : pieces) {
            if (l.hand == hand && l.done >= 0) {
                lines += l.lines;
                for (int w = work(l); w > 0; w -= 60) {
                    minutes++;
                }
            }
        }
        return (what == 0 ? 60 * lines : 1000 * minutes) / hands.get(hand).worked;
    }

    int claims(int department, int what) {
        if (!in(department, 0, 7) || !in(what, 0, 4)) {
            return -1;
        }
        int[] sums = new int[5];
        for (Letter l : pieces) {
            if (l.department == department) {
                sums[0] += l.taken < 0 ? 0 : l.taken - l.comes;
                sums[1]++;
                sums[2] += minutesLate(l) > 0 ? 1 : 0;
                sums[3] += l.claim > 6 && l.due >= l.comes + 480 ? 1 : 0;
                sums[4] += l.comes / 480 == now / 480 ? l.lines : 0;
            }
        }
        return sums[what];
    }

    // ---- plans, trials

    /** All rows, each with how many are late and by how much, are listed; the least is the best. */
    private int[] bestPlan(int pieceBits, int handBits) {
        List<Integer> ps = new ArrayList<>();
        List<Integer> hs = new ArrayList<>();
        for (int i = 0; i < 32; i++) {
            if ((pieceBits >>> i & 1) == 1) {
                if (!isPiece(i) || !waits(pieces.get(i))) {
                    return new int[] {-1};
                }
                ps.add(i);
            }
            if ((handBits >>> i & 1) == 1) {
                if (!isHand(i)) {
                    return new int[] {-1};
                }
                hs.add(i);
            }
        }
        if (!in(ps.size(), 1, 5) || !in(hs.size(), 1, 3)) {
            return new int[] {-1};
        }
        List<int[]> all = new ArrayList<>();
        List<Integer> rest = new ArrayList<>(ps);
        for (int i = 0; i < hs.size(); i++) {
            rest.add(-1);
        }
        arrange(rest, new ArrayList<>(), hs, all);
        if (all.isEmpty()) {
            return new int[] {-2};
        }
        all.sort(Arrays::compare);
        return all.get(0);
    }

    /** Every arrangement of the pieces and of as many ends as hands, the last one an end. */
    private void arrange(List<Integer> rest, List<Integer> made, List<Integer> hs, List<int[]> all) {
        if (rest.isEmpty()) {
            if (made.get(made.size() - 1) == -1) {
                int[] weighed = weigh(made, hs);
                if (weighed != null) {
                    all.add(weighed);
                }
            }
            return;
        }
        boolean endTried = false;
        for (int i = 0; i < rest.size(); i++) {
            if (rest.get(i) == -1) {
                if (endTried) {
                    continue;
                }
                endTried = true;
            }
            List<Integer> fewer = new ArrayList<>(rest);
            List<Integer> more = new ArrayList<>(made);
            more.add(fewer.remove(i));
            arrange(fewer, more, hs, all);
        }
    }

    private int[] weigh(List<Integer> made, List<Integer> hs) {
        int late = 0;
        int lateness = 0;
        int place = 0;
        int[] clock = start(hs.get(0));
        for (int number : made) {
            if (number == -1) {
                place++;
                clock = place < hs.size() ? start(hs.get(place)) : null;
                continue;
            }
            Letter l = pieces.get(number);
            int h = hs.get(place);
            if (!mayDo(h, l)) {
                return null;
            }
            clock[0] = typed(h, clock[0], work(l), rate(hands.get(h), l, clock[1]));
            clock[1] |= l.words;
            late += clock[0] > l.due ? 1 : 0;
            lateness += Math.max(0, clock[0] - l.due);
        }
        int[] weighed = new int[made.size() + 2];
        weighed[0] = late;
        weighed[1] = lateness;
        for (int i = 0; i < made.size(); i++) {
            weighed[i + 2] = made.get(i);
        }
        return weighed;
    }

    private int[] start(int h) {
        Typist t = hands.get(h);
        if (t.piece < 0) {
            return new int[] {now, t.words};
        }
        Letter l = pieces.get(t.piece);
        return new int[] {typed(h, now, l.left, t.rate), t.words | l.words};
    }

    private int typed(int h, int from, int work, int rate) {
        int m = from;
        for (int left = work; left > 0; m++) {
            if (!isAway(h, m)) {
                left -= rate;
            }
        }
        return m;
    }

    int plan(int pieceBits, int handBits) {
        int[] best = bestPlan(pieceBits, handBits);
        if (best.length > 1) {
            row.clear();
            for (int i = 2; i < best.length; i++) {
                row.add(best[i]);
            }
        }
        return best[0];
    }

    int lateness(int pieceBits, int handBits) {
        int[] best = bestPlan(pieceBits, handBits);
        return best.length > 1 ? best[1] : best[0];
    }

    private int[] trial(int n, int rule, int ill) {
        List<Typist> handsWere = new ArrayList<>();
        for (Typist t : hands) {
            handsWere.add(t.copy());
        }
        List<Letter> piecesWere = new ArrayList<>();
        for (Letter l : pieces) {
            piecesWere.add(l.copy());
        }
        int was = now;
        instead = rule;
        illHand = ill;
        step(n);
        int[] told = new int[9];
        told[8] = late();
        for (int d = 0; d < 8; d++) {
            told[d] = claims(d, 0);
        }
        hands = handsWere;
        pieces = piecesWere;
        now = was;
        instead = -1;
        illHand = -1;
        return told;
    }

    int tried(int rule, int n) {
        if (!in(rule, -1, rules.size() - 1) || !in(n, 0, 960) || now + n > 4800
            || rule >= 0 && (int) rules.get(rule)[0] > 1) {
            return -1;
        }
        int[] told = trial(n, rule, -1);
        row.clear();
        for (int d = 0; d < 8; d++) {
            row.add(told[d]);
        }
        return told[8];
    }

    int ill(int hand, int n) {
        if (!isHand(hand) || !in(n, 1, 960) || now + n > 4800) {
            throw new NoSuchElementException();
        }
        return trial(n, -1, hand)[8] - trial(n, -1, -1)[8];
    }

    int row(int i) {
        if (!in(i, 0, row.size() - 1)) {
            throw new NoSuchElementException();
        }
        return row.get(i);
    }
}
