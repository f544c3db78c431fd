import java.util.Arrays;
import java.util.NoSuchElementException;
import java.util.Random;

/** Holds TypingPool against NaivePool on many runs of calls, the same ones each time. */
public final class RandomRunsTest {
    private static final String[] CALLS = {"post", "hand", "away", "piece", "sign", "end", "rule", "step", "of",
        "at", "may", "order", "goes", "count", "correct", "undo", "as", "fault", "faults", "pay", "earns", "slips",
        "left", "quick", "claims", "plan", "lateness", "tried", "ill", "row"};
    private static final long THROWN = Long.MIN_VALUE;

    private final Random random;
    private final int run;
    private final TypingPool pool = new TypingPool();
    private final NaivePool naive = new NaivePool();
    private final StringBuilder told = new StringBuilder();
    private final int longest;
    private int calls = 0;
    private boolean wrong = false;

    private RandomRunsTest(int run) {
        this.run = run;
        this.random = new Random(7919L * run + 1);
        this.longest = run % 10 == 0 ? 400 : run % 3 == 0 ? 60 : 12;
    }

    public static void main(String[] args) {
        int runs = args.length > 0 ? Integer.parseInt(args[0]) : 400;
        int wrongRuns = 0;
        for (int run = 1; run <= runs && wrongRuns < 5; run++) {
            RandomRunsTest one = new RandomRunsTest(run);
            one.go();
            if (one.wrong) {
                wrongRuns++;
            }
        }
        System.out.println(wrongRuns == 0 ? runs + " runs as the naive pool" : wrongRuns + " runs wrong");
        if (wrongRuns != 0) {
            System.exit(1);
        }
    }

    private void go() {
        if (run % 7 == 0) {
            goNearTheEnd();
        }
        int hands = 1 + random.nextInt(random.nextInt(4) == 0 ? 9 : 4);
        for (int i = 0; i < hands; i++) {
            tellHand();
        }
        int pieces = random.nextInt(random.nextInt(3) == 0 ? 32 : 9);
        for (int i = 0; i < pieces; i++) {
            tellPiece();
        }
        int rules = random.nextInt(4);
        for (int i = 0; i < rules; i++) {
            tellRule();
        }
        int all = 150 + random.nextInt(250);
        while (calls < all && !wrong) {
            somethingMore();
        }
        lookAtAll();
    }

    /** Few runs would come to the last minutes by themselves. */
    private void goNearTheEnd() {
        int start = 4800 - random.nextInt(random.nextBoolean() ? 700 : 60);
        while (naive.now < start && !wrong) {
            ask("step", Math.min(960, start - naive.now));
        }
    }

    private void somethingMore() {
        switch (random.nextInt(26)) {
            case 0:
                tellHand();
                break;
            case 1:
            case 2:
                tellPiece();
                break;
            case 3:
                tellRule();
                break;
            case 4:
                tellAway();
                break;
            case 5:
            case 6:
            case 7:
                ask("step", some(random.nextInt(12) == 0 ? 961 : random.nextInt(3) == 0 ? 120 : 15));
                break;
            case 8:
                ask("post", some(481));
                break;
            case 9:
            case 10:
                ask("correct", donePiece(), some(101), some(2), some(2), some(2));
                break;
            case 11:
                ask("undo", some(naive.corrections.size() + 1), some(101));
                break;
            case 12:
                ask("as", some(101));
                break;
            case 13:
                ask("slips", some(naive.pieces.size() + 1), some(3), random.nextInt(65537));
                break;
            case 14:
            case 15:
            case 16:
                askPlan();
                break;
            case 17:
                ask("tried", random.nextInt(naive.rules.size() + 2) - 1, some(random.nextInt(9) == 0 ? 962 : 90));
                lookAtRow();
                break;
            case 18:
                ask("ill", some(naive.hands.size() + 1), some(random.nextInt(9) == 0 ? 962 : 90));
                lookAtRow();
                break;
            case 19:
                askOdd();
                break;
            default:
                lookAtSome();
        }
    }

    private int some(int below) {
        return random.nextInt(25) == 0 ? random.nextInt(5) - 3 + (random.nextBoolean() ? below : 0)
            : random.nextInt(Math.max(1, below));
    }

    /** A piece that is done, if there is one among a few looked at. */
    private int donePiece() {
        int piece = some(naive.pieces.size() + 1);
        for (int i = 0; i < 10 && naive.at(piece, 0) != 3; i++) {
            piece = some(naive.pieces.size() + 1);
        }
        return piece;
    }

    private static int count(String call) {
        switch (call) {
            case "piece":
                return 9;
            case "correct":
                return 5;
            case "hand":
                return 4;
            case "away":
            case "slips":
                return 3;
            case "post":
            case "sign":
            case "end":
            case "step":
            case "goes":
            case "count":
            case "as":
            case "fault":
            case "pay":
            case "row":
                return 1;
            default:
                return 2;
        }
    }

    /** Far off numbers, which must be refused and nothing more. */
    private void askOdd() {
        int[] odd = {Integer.MIN_VALUE, Integer.MAX_VALUE, -1, -2, 31, 32, 64, 1 << 30, 4801, 100000, 0, 1};
        String call = CALLS[random.nextInt(CALLS.length)];
        if (call.equals("sign")) {
            return;
        }
        int[] args = new int[count(call)];
        for (int i = 0; i < args.length; i++) {
            args[i] = odd[random.nextInt(odd.length)];
        }
        ask(call, args);
    }

    private void tellHand() {
        ask("hand", random.nextInt(20) == 0 ? random.nextInt(12) : 10 + random.nextInt(random.nextBoolean() ? 192 : 60),
            random.nextBoolean() ? 255 : random.nextInt(257), random.nextInt(4) == 0 ? random.nextInt(65537)
                : random.nextInt(16), some(4));
    }

    private void tellPiece() {
        int comes = naive.now + some(random.nextInt(3) == 0 ? 600 : 3);
        int due = comes + some(random.nextInt(3) == 0 ? 700 : 40);
        ask("piece", some(8), random.nextInt(random.nextBoolean() ? 2 : 9), 1 + some(longest), some(4), some(10), comes,
            due, random.nextInt(4) == 0 ? random.nextInt(65537) : random.nextInt(16), some(7));
    }

    private void tellAway() {
        int from = naive.now + some(random.nextInt(3) == 0 ? 500 : 8);
        ask("away", some(naive.hands.size() + 1), from, from + some(random.nextInt(3) == 0 ? 300 : 12));
    }

    private void tellRule() {
        int kind = random.nextInt(4);
        StringBuilder made = new StringBuilder();
        expression(made, NaivePool.LETTERS[kind], random.nextInt(5));
        if (random.nextInt(4) == 0) {
            spoil(made);
        }
        int length = Math.min(made.length(), 96);
        for (int i = 0; i < length; i += 4) {
            int v = 0;
            for (int k = 0; k < 4; k++) {
                v = v << 8 | (i + k < made.length() ? made.charAt(i + k) : random.nextInt(256));
            }
            ask("sign", v);
        }
        if (random.nextInt(30) != 0) {
            ask("end", length);
        }
        ask("rule", random.nextInt(30) == 0 ? some(5) : kind, random.nextInt(30) == 0 ? some(11)
            : random.nextInt(3) == 0 ? random.nextInt(10) : naive.now / 480 % 10);
    }

    private void expression(StringBuilder made, String letters, int size) {
        if (size == 0) {
            int which = random.nextInt(8);
            made.append("!-".substring(0, which < 2 ? which + 1 : 0));
            if (random.nextInt(3) == 0) {
                made.append(random.nextInt(random.nextInt(3) == 0 ? 10000 : 10));
            } else {
                made.append(letters.charAt(random.nextInt(letters.length())));
            }
            return;
        }
        boolean brackets = random.nextInt(3) != 0;
        made.append(random.nextInt(6) == 0 && brackets ? "-" : "").append(brackets ? "(" : "");
        expression(made, letters, random.nextInt(size));
        made.append("|&<>=++--**".charAt(random.nextInt(11)));
        expression(made, letters, random.nextInt(size));
        made.append(brackets ? ")" : "");
    }

    private void spoil(StringBuilder made) {
        String signs = "()!-+*<>=|&0123456789cwldspknvhtraxof ~~";
        int place = random.nextInt(made.length());
        char sign = random.nextInt(5) == 0 ? (char) random.nextInt(256) : signs.charAt(random.nextInt(signs.length()));
        switch (random.nextInt(4)) {
            case 0:
                made.setCharAt(place, sign);
                break;
            case 1:
                made.insert(place, sign);
                break;
            case 2:
                made.deleteCharAt(place);
                break;
            default:
                made.insert(place, ("" + sign).repeat(1 + random.nextInt(70)));
        }
    }

    private void askPlan() {
        int waiting = random.nextInt(12) == 0 ? random.nextInt(64) : 0;
        int mostPieces = 1 + random.nextInt(5);
        for (int p = 0; p < naive.pieces.size(); p++) {
            boolean waits = naive.at(p, 0) == 1 && Integer.bitCount(waiting) < mostPieces;
            if (waits && random.nextInt(4) != 0) {
                waiting |= 1 << p;
            }
        }
        int hands = random.nextInt(12) == 0 ? random.nextInt(64) : 0;
        for (int h = 0; h < naive.hands.size(); h++) {
            if (Integer.bitCount(hands) < 3 && random.nextInt(3) != 0) {
                hands |= 1 << h;
            }
        }
        ask(random.nextBoolean() ? "plan" : "lateness", waiting, hands);
        lookAtRow();
    }

    private void lookAtRow() {
        ask("count", 10);
        for (int i = 0; i < naive.row.size(); i++) {
            ask("row", i);
        }
    }

    private void lookAtSome() {
        switch (random.nextInt(16)) {
            case 0:
                ask("of", some(naive.hands.size()), some(7));
                break;
            case 1:
                ask("at", some(naive.pieces.size()), some(7));
                break;
            case 2:
                ask("may", some(naive.hands.size()), some(naive.pieces.size()));
                break;
            case 3:
                ask("order", some(naive.hands.size()), some(naive.pieces.size()));
                break;
            case 4:
                ask("goes", some(naive.pieces.size()));
                break;
            case 5:
                ask("count", some(13));
                break;
            case 6:
                ask("fault", some(naive.corrections.size()));
                break;
            case 7:
                ask("faults", some(naive.hands.size()), some(3));
                break;
            case 8:
                ask("pay", some(naive.pieces.size()));
                break;
            case 9:
                ask("earns", some(naive.hands.size()), some(12) - 1);
                break;
            case 10:
                ask("left", some(naive.pieces.size()), some(3));
                break;
            case 11:
                ask("quick", some(naive.hands.size()), some(2));
                break;
            case 12:
                ask("claims", some(8), some(5));
                break;
            case 13:
                ask("row", some(9));
                break;
            case 14:
                ask("sign", random.nextInt());
                break;
            default:
                ask("end", some(naive.text.length() + 1));
        }
    }

    private void lookAtAll() {
        for (int what = 0; what < 13 && !wrong; what++) {
            ask("count", what);
        }
        for (int h = 0; h < naive.hands.size() && !wrong; h++) {
            for (int what = 0; what < 7; what++) {
                ask("of", h, what);
            }
        }
        for (int p = 0; p < naive.pieces.size() && calls < 512; p++) {
            for (int what = 0; what < 7; what++) {
                ask("at", p, what);
            }
        }
    }

    private void ask(String call, int... args) {
        if (wrong || calls >= 512) {
            return;
        }
        calls++;
        long due;
        try {
            due = naiveAnswer(call, args);
        } catch (NoSuchElementException e) {
            due = THROWN;
        }
        long got;
        try {
            got = answer(call, args);
        } catch (NoSuchElementException e) {
            got = THROWN;
        }
        told.append(call).append(Arrays.toString(args)).append(" -> ").append(due).append('\n');
        if (got != due) {
            wrong = true;
            System.out.println("run " + run + ", call " + calls + ": answered " + got + "\n" + told);
        }
    }

    private long answer(String call, int[] a) {
        switch (call) {
            case "post": return pool.post(a[0]);
            case "hand": return pool.hand(a[0], a[1], a[2], a[3]);
            case "away": return pool.away(a[0], a[1], a[2]);
            case "piece": return pool.piece(a[0], a[1], a[2], a[3], a[4], a[5], a[6], a[7], a[8]);
            case "sign": return pool.sign(a[0]);
            case "end": return pool.end(a[0]) ? 1 : 0;
            case "rule": return pool.rule(a[0], a[1]);
            case "step": return pool.step(a[0]);
            case "of": return pool.of(a[0], a[1]);
            case "at": return pool.at(a[0], a[1]);
            case "may": return pool.may(a[0], a[1]);
            case "order": return pool.order(a[0], a[1]);
            case "goes": return pool.goes(a[0]);
            case "count": return pool.count(a[0]);
            case "correct": return pool.correct(a[0], a[1], a[2], a[3], a[4]);
            case "undo": return pool.undo(a[0], a[1]) ? 1 : 0;
            case "as": return pool.as(a[0]);
            case "fault": return pool.fault(a[0]);
            case "faults": return pool.faults(a[0], a[1]);
            case "pay": return pool.pay(a[0]);
            case "earns": return pool.earns(a[0], a[1]);
            case "slips": return pool.slips(a[0], a[1], a[2]) ? 1 : 0;
            case "left": return pool.left(a[0], a[1]);
            case "quick": return pool.quick(a[0], a[1]);
            case "claims": return pool.claims(a[0], a[1]);
            case "plan": return pool.plan(a[0], a[1]);
            case "lateness": return pool.lateness(a[0], a[1]);
            case "tried": return pool.tried(a[0], a[1]);
            case "ill": return pool.ill(a[0], a[1]);
            case "row": return pool.row(a[0]);
            default: throw new IllegalStateException(call);
        }
    }

    private long naiveAnswer(String call, int[] a) {
        switch (call) {
            case "post": return naive.post(a[0]);
            case "hand": return naive.hand(a[0], a[1], a[2], a[3]);
            case "away": return naive.away(a[0], a[1], a[2]);
            case "piece": return naive.piece(a[0], a[1], a[2], a[3], a[4], a[5], a[6], a[7], a[8]);
            case "sign": return naive.sign(a[0]);
            case "end": return naive.end(a[0]) ? 1 : 0;
            case "rule": return naive.rule(a[0], a[1]);
            case "step": return naive.step(a[0]);
            case "of": return naive.of(a[0], a[1]);
            case "at": return naive.at(a[0], a[1]);
            case "may": return naive.may(a[0], a[1]);
            case "order": return naive.order(a[0], a[1]);
            case "goes": return naive.goes(a[0]);
            case "count": return naive.count(a[0]);
            case "correct": return naive.correct(a[0], a[1], a[2], a[3], a[4]);
            case "undo": return naive.undo(a[0], a[1]) ? 1 : 0;
            case "as": return naive.as(a[0]);
            case "fault": return naive.fault(a[0]);
            case "faults": return naive.faults(a[0], a[1]);
            case "pay": return naive.pay(a[0]);
            case "earns": return naive.earns(a[0], a[1]);
            case "slips": return naive.slips(a[0], a[1], a[2]) ? 1 : 0;
            case "left": return naive.left(a[0], a[1]);
            case "quick": return naive.quick(a[0], a[1]);
            case "claims": return naive.claims(a[0], a[1]);
            case "plan": return naive.plan(a[0], a[1]);
            case "lateness": return naive.lateness(a[0], a[1]);
            case "tried": return naive.tried(a[0], a[1]);
            case "ill": return naive.ill(a[0], a[1]);
            case "row": return naive.row(a[0]);
            default: throw new IllegalStateException(call);
        }
    }
}
