import java.util.NoSuchElementException;

/**
 * "Refused calls answer NONE, or false, and change nothing", for each call: of two pools alike one
 * gets calls that are refused, and all that can be asked of both must be the same then and later on.
 */
public final class RefusedCallsTest extends Checks {
    private static final int LEAST = Integer.MIN_VALUE;
    private static final int MOST = Integer.MAX_VALUE;
    private static final int[] OUTSIDE = {-1, -2, 99, LEAST, MOST};

    public static void main(String[] args) {
        runAll(RefusedCallsTest.class);
    }

    /** A call on a pool that is due to be refused, or to change nothing. */
    private interface Act {
        int on(TypingPool x);
    }

    /** One piece done (0), two taken (1, 3), one waits (2), one not come (4); a row, a text and AS. */
    private static TypingPool someDay() {
        TypingPool x = new TypingPool();
        x.hand(60, 1, 0, 1);
        x.hand(45, 3, 1, 2);
        x.post(20);
        x.post(300);
        x.piece(1, 0, 5, 0, 9, 0, 4, 1, 0);
        x.piece(1, 0, 40, 1, 8, 0, 500, 3, 1);
        x.piece(2, 1, 30, 1, 7, 0, 10, 3, 2);
        x.piece(2, 0, 20, 0, 6, 0, 50, 2, 0);
        x.piece(1, 0, 20, 0, 6, 70, 550, 2, 0);
        tell(x, "w+c", 0, 1);
        tell(x, "v+1>s", 1, 0);
        tell(x, "l*2-f", 3, 0);
        x.step(12);
        x.away(0, 15, 20);
        x.away(1, 12, 14);
        x.correct(0, 5, 0, 0, 0);
        x.correct(0, 6, 1, 1, 0);
        x.undo(0, 60);
        x.as(50);
        x.slips(0, 0, 0b1110);
        x.slips(0, 1, 0b0111);
        x.slips(3, 1, 0b1);
        x.plan(4, 3);
        write(x, "2*c");
        return x;
    }

    private static String asked(TypingPool x, Act act) {
        try {
            return " " + act.on(x);
        } catch (NoSuchElementException e) {
            return " !";
        }
    }

    /** All that can be asked. */
    private static String look(TypingPool x) {
        StringBuilder seen = new StringBuilder();
        for (int i = 0; i <= 12; i++) {
            seen.append(' ').append(x.count(i));
        }
        int hands = Math.min(2, x.count(1));
        int pieces = Math.min(5, x.count(2));
        for (int h = 0; h < hands; h++) {
            seen.append(" | hand").append(ofHand(x, h, pieces));
        }
        for (int p = 0; p < pieces; p++) {
            seen.append(" | piece").append(ofPiece(x, p));
        }
        seen.append(" | faults ").append(x.fault(0)).append(' ').append(x.fault(1));
        for (int what = 0; what < 5; what++) {
            seen.append(" | claims ").append(x.claims(1, what)).append(' ').append(x.claims(2, what));
        }
        seen.append(" | row");
        for (int i = 0; i < x.count(10); i++) {
            int number = i;
            seen.append(asked(x, pool -> pool.row(number)));
        }
        return seen.toString();
    }

    private static String ofHand(TypingPool x, int hand, int pieces) {
        StringBuilder seen = new StringBuilder();
        for (int i = 0; i < 7; i++) {
            int what = i;
            seen.append(asked(x, pool -> pool.of(hand, what)));
        }
        for (int i = 0; i < pieces; i++) {
            int piece = i;
            seen.append(' ').append(x.may(hand, piece)).append(asked(x, pool -> pool.order(hand, piece)));
        }
        for (int kind = 0; kind < 3; kind++) {
            seen.append(' ').append(x.faults(hand, kind));
        }
        seen.append(asked(x, pool -> pool.earns(hand, 0))).append(asked(x, pool -> pool.earns(hand, -1)));
        return seen.append(' ').append(x.quick(hand, 0)).append(' ').append(x.quick(hand, 1)).toString();
    }

    private static String ofPiece(TypingPool x, int piece) {
        StringBuilder seen = new StringBuilder();
        for (int what = 0; what < 7; what++) {
            seen.append(' ').append(x.at(piece, what));
        }
        for (int what = 0; what < 3; what++) {
            seen.append(' ').append(x.left(piece, what));
        }
        return seen.append(' ').append(x.goes(piece)).append(asked(x, pool -> pool.pay(piece))).toString();
    }

    /** Each act answers what is due, and neither then nor later can one see that it was there. */
    private static void dueNothing(String call, String want, Act... acts) {
        TypingPool x = someDay();
        TypingPool y = someDay();
        for (int i = 0; i < acts.length; i++) {
            due(call + ", " + i, asked(x, acts[i]), " " + want);
        }
        due("all, behind " + call, look(x), look(y));
        due("the text, behind " + call, x.rule(0, 0), y.rule(0, 0));
        x.step(80);
        y.step(80);
        due("all, 80 minutes behind " + call, look(x), look(y));
    }

    private static Act[] with(int[] numbers, java.util.function.IntFunction<Act> act) {
        Act[] acts = new Act[numbers.length];
        for (int i = 0; i < numbers.length; i++) {
            acts[i] = act.apply(numbers[i]);
        }
        return acts;
    }

    private static void part(String call) {
        sentence("Terms 5", "Refused calls answer NONE, or false, and change nothing: " + call);
    }

    static void seesWhatChanges() {
        sentence("this test", "two pools are alike, and one that was changed is not");
        due("alike", look(someDay()), look(someDay()));
        Act[] changes = {x -> x.post(0), x -> x.hand(60, 1, 0, 0), x -> x.away(0, 12, 13), x -> x.sign(0),
            x -> x.end(0) ? 1 : 0, x -> x.rule(0, 0), x -> x.step(1), x -> x.correct(0, 0, 0, 0, 0),
            x -> x.undo(0, 5) ? 1 : 0, x -> x.as(5), x -> x.slips(0, 0, 0) ? 1 : 0, x -> x.plan(4, 2),
            x -> x.tried(-1, 5), x -> plain(x, 1, 12, 12)};
        for (int i = 0; i < changes.length; i++) {
            TypingPool x = someDay();
            changes[i].on(x);
            due("change " + i + " is seen", look(x).equals(look(someDay())), false);
        }
    }

    static void post() {
        part("post");
        dueNothing("post", "-1", with(new int[] {-1, 480, LEAST, MOST}, n -> x -> x.post(n)));
    }

    static void hand() {
        part("hand");
        dueNothing("hand", "-1", x -> x.hand(9, 1, 0, 0), x -> x.hand(201, 1, 0, 0), x -> x.hand(60, -1, 0, 0),
            x -> x.hand(60, 256, 0, 0), x -> x.hand(60, 1, -1, 0), x -> x.hand(60, 1, 65536, 0),
            x -> x.hand(60, 1, 0, -1), x -> x.hand(60, 1, 0, 4));
    }

    static void away() {
        part("away");
        dueNothing("away", "-1", x -> x.away(0, 11, 100), x -> x.away(0, 12, 12), x -> x.away(0, 13, 12),
            x -> x.away(0, 12, 4801), x -> x.away(2, 12, 100), x -> x.away(-1, 12, 100), x -> x.away(0, -1, 100));
    }

    static void piece() {
        part("piece");
        int[][] others = {{8, 0, 1, 0, 0, 12, 12, 0, 0}, {-1, 0, 1, 0, 0, 12, 12, 0, 0}, {0, 8, 1, 0, 0, 12, 12, 0, 0},
            {0, -1, 1, 0, 0, 12, 12, 0, 0}, {0, 0, 0, 0, 0, 12, 12, 0, 0}, {0, 0, 401, 0, 0, 12, 12, 0, 0},
            {0, 0, 1, 4, 0, 12, 12, 0, 0}, {0, 0, 1, -1, 0, 12, 12, 0, 0}, {0, 0, 1, 0, 10, 12, 12, 0, 0},
            {0, 0, 1, 0, -1, 12, 12, 0, 0}, {0, 0, 1, 0, 0, 11, 12, 0, 0}, {0, 0, 1, 0, 0, 4801, 4801, 0, 0},
            {0, 0, 1, 0, 0, 12, 11, 0, 0}, {0, 0, 1, 0, 0, 12, 4801, 0, 0}, {0, 0, 1, 0, 0, 12, 12, 65536, 0},
            {0, 0, 1, 0, 0, 12, 12, -1, 0}, {0, 0, 1, 0, 0, 12, 12, 0, 7}, {0, 0, 1, 0, 0, 12, 12, 0, -1}};
        Act[] acts = new Act[others.length];
        for (int i = 0; i < others.length; i++) {
            int[] p = others[i];
            acts[i] = x -> told(x, p);
        }
        dueNothing("piece", "-1", acts);
    }

    static void end() {
        part("end");
        dueNothing("end", "0", with(new int[] {-1, 4, 100, LEAST, MOST}, n -> x -> x.end(n) ? 1 : 0));
    }

    static void rule() {
        part("rule, with -100");
        dueNothing("rule", "-100", x -> x.rule(-1, 0), x -> x.rule(4, 0), x -> x.rule(0, -1), x -> x.rule(0, 10),
            x -> x.rule(LEAST, MOST), x -> x.rule(MOST, LEAST));
    }

    static void step() {
        part("step");
        dueNothing("step", "-1", with(new int[] {-1, 961, LEAST, MOST}, n -> x -> x.step(n)));
        dueNothing("step(0)", "12", x -> x.step(0));
    }

    static void correct() {
        part("correct");
        dueNothing("correct", "-1", x -> x.correct(1, 0, 0, 0, 0), x -> x.correct(2, 0, 0, 0, 0),
            x -> x.correct(4, 0, 0, 0, 0), x -> x.correct(5, 0, 0, 0, 0), x -> x.correct(-1, 0, 0, 0, 0),
            x -> x.correct(0, -1, 0, 0, 0), x -> x.correct(0, 100, 0, 0, 0), x -> x.correct(0, 0, 2, 0, 0),
            x -> x.correct(0, 0, 0, 2, 0), x -> x.correct(0, 0, 0, 0, 2), x -> x.correct(0, 0, -1, -1, -1));
    }

    static void undo() {
        part("undo");
        dueNothing("undo", "0", x -> x.undo(2, 0) ? 1 : 0, x -> x.undo(-1, 0) ? 1 : 0, x -> x.undo(LEAST, 0) ? 1 : 0,
            x -> x.undo(MOST, 0) ? 1 : 0, x -> x.undo(0, -1) ? 1 : 0, x -> x.undo(0, 100) ? 1 : 0,
            x -> x.undo(1, LEAST) ? 1 : 0, x -> x.undo(1, MOST) ? 1 : 0);
    }

    static void as() {
        part("as");
        dueNothing("as", "-1", with(new int[] {-1, 100, LEAST, MOST}, n -> x -> x.as(n)));
    }

    static void slips() {
        part("slips");
        dueNothing("slips", "0", x -> x.slips(5, 0, 1) ? 1 : 0, x -> x.slips(-1, 0, 1) ? 1 : 0,
            x -> x.slips(0, 2, 1) ? 1 : 0, x -> x.slips(0, -1, 1) ? 1 : 0, x -> x.slips(0, 0, 65536) ? 1 : 0,
            x -> x.slips(0, 0, -1) ? 1 : 0, x -> x.slips(0, 1, 65536) ? 1 : 0, x -> x.slips(0, 1, -1) ? 1 : 0);
    }

    static void plan() {
        part("plan");
        dueNothing("plan", "-1", x -> x.plan(0, 2), x -> x.plan(4, 0), x -> x.plan(1, 1), x -> x.plan(2, 1),
            x -> x.plan(16, 1), x -> x.plan(32, 1), x -> x.plan(4, 4), x -> x.plan(-1, -1), x -> x.plan(LEAST, LEAST));
        sentence("Terms 5", "ROW: numbers told last by a call that says so: not by plan() with -2");
        dueNothing("plan", "-2", x -> x.plan(4, 1));
    }

    static void lateness() {
        part("lateness");
        dueNothing("lateness", "-1", x -> x.lateness(0, 2), x -> x.lateness(4, 0), x -> x.lateness(1, 1),
            x -> x.lateness(16, 1), x -> x.lateness(4, 4), x -> x.lateness(-1, -1));
        dueNothing("lateness", "-2", x -> x.lateness(4, 1));
        TypingPool x = someDay();
        due("lateness tells no row", x.lateness(4, 2) >= 0, true);
        due("lateness tells no row", look(x), look(someDay()));
    }

    static void tried() {
        part("tried");
        dueNothing("tried", "-1", x -> x.tried(-1, -1), x -> x.tried(-1, 961), x -> x.tried(2, 5), x -> x.tried(3, 5),
            x -> x.tried(-2, 5), x -> x.tried(LEAST, 5), x -> x.tried(MOST, 5), x -> x.tried(0, LEAST),
            x -> x.tried(1, MOST));
    }

    static void throwing() {
        part("what throws");
        dueNothing("of", "!", with(OUTSIDE, n -> x -> x.of(n, 0)));
        dueNothing("of", "!", with(OUTSIDE, n -> x -> x.of(0, n)));
        dueNothing("order", "!", with(OUTSIDE, n -> x -> x.order(n, 0)));
        dueNothing("order", "!", with(OUTSIDE, n -> x -> x.order(0, n)));
        dueNothing("pay", "!", with(OUTSIDE, n -> x -> x.pay(n)));
        dueNothing("earns", "!", with(OUTSIDE, n -> x -> x.earns(n, 0)));
        dueNothing("earns", "!", with(new int[] {-2, 10, LEAST, MOST}, n -> x -> x.earns(0, n)));
        dueNothing("ill", "!", with(OUTSIDE, n -> x -> x.ill(n, 5)));
        dueNothing("ill", "!", with(new int[] {0, -1, 961, LEAST, MOST}, n -> x -> x.ill(0, n)));
        dueNothing("row", "!", with(OUTSIDE, n -> x -> x.row(n)));
    }

    static void asking() {
        part("what only asks");
        dueNothing("at", "-1", with(OUTSIDE, n -> x -> x.at(n, 0)));
        dueNothing("at", "-1", with(OUTSIDE, n -> x -> x.at(0, n)));
        dueNothing("may", "-1", with(OUTSIDE, n -> x -> x.may(n, 0)));
        dueNothing("may", "-1", with(OUTSIDE, n -> x -> x.may(0, n)));
        dueNothing("goes", "-1", with(OUTSIDE, n -> x -> x.goes(n)));
        dueNothing("count", "-1", with(OUTSIDE, n -> x -> x.count(n)));
        dueNothing("fault", "-1", with(OUTSIDE, n -> x -> x.fault(n)));
        dueNothing("faults", "-1", with(OUTSIDE, n -> x -> x.faults(n, 0)));
        dueNothing("faults", "-1", with(OUTSIDE, n -> x -> x.faults(0, n)));
        dueNothing("left", "-1", with(OUTSIDE, n -> x -> x.left(n, 0)));
        dueNothing("left", "-1", with(OUTSIDE, n -> x -> x.left(0, n)));
        dueNothing("quick", "-1", with(OUTSIDE, n -> x -> x.quick(n, 0)));
        dueNothing("quick", "-1", with(OUTSIDE, n -> x -> x.quick(0, n)));
        dueNothing("claims", "-1", with(OUTSIDE, n -> x -> x.claims(n, 0)));
        dueNothing("claims", "-1", with(OUTSIDE, n -> x -> x.claims(0, n)));
    }

    static void trials() {
        sentence("Terms 5", "then all is as it was");
        TypingPool x = someDay();
        TypingPool y = someDay();
        for (int i = -1; i <= 1; i++) {
            x.tried(i, 960);
        }
        y.tried(1, 960);
        x.ill(0, 960);
        x.ill(1, 960);
        due("all but the row", look(x), look(y));
        x.rule(0, 0);
        y.rule(0, 0);
        x.step(80);
        y.step(80);
        due("80 minutes on", look(x), look(y));
    }

    /** Eight hands, 30 pieces and aways, four posts, 20 rules, 40 corrections, a text of 100 signs. */
    private static TypingPool full() {
        TypingPool x = new TypingPool();
        for (int i = 0; i < 8; i++) {
            x.hand(60 + i, 1, i, 0);
        }
        for (int i = 0; i < 30; i++) {
            x.piece(i % 8, 0, 1 + i, 0, i % 10, i, 100 + i, i, i % 7);
            x.away(i % 8, 200 + i, 210 + i);
        }
        for (int i = 0; i < 4; i++) {
            x.post(100 * i);
        }
        for (int i = 0; i < 20; i++) {
            x.sign('3' << 24 | '*' << 16 | 's' << 8);
            x.end(3);
            x.rule(i % 2 * 3, i / 2);
        }
        x.step(60);
        for (int i = 0; i < 40; i++) {
            x.correct(0, i, 0, 0, 0);
        }
        for (int i = 0; i < 25; i++) {
            x.sign('1' << 24 | '+' << 16 | '1' << 8 | '+');
        }
        return x;
    }

    static void whenAllIsFull() {
        part("full");
        TypingPool x = full();
        TypingPool y = full();
        int[] most = {60, 8, 30, 20, 40, 30};
        for (int what = 0; what < most.length; what++) {
            due("count(" + what + ")", x.count(what), most[what]);
        }
        due("count(11)", x.count(11), 100);
        due("count(12)", x.count(12), 4);
        due("post", x.post(0), -1);
        due("hand", x.hand(60, 1, 0, 0), -1);
        due("away", x.away(0, 60, 61), -1);
        due("piece", plain(x, 1, 60, 61), -1);
        due("sign", x.sign('1' << 24), -1);
        due("rule", x.rule(0, 0), -100);
        due("correct", x.correct(0, 0, 0, 0, 0), -1);
        due("all", look(x), look(y));
        for (int i = 29; i >= 25; i--) {
            due("piece " + i, ofPiece(x, i), ofPiece(y, i));
        }
        due("hand 7", ofHand(x, 7, 1), ofHand(y, 7, 1));
        x.step(1);
        y.step(1);
        due("it is not away", x.of(0, 5), y.of(0, 5));
    }
}
