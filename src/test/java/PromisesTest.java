/** Each promise of the document, with answers worked out by hand. */
public final class PromisesTest extends Checks {
    public static void main(String[] args) {
        newObject();
        post();
        hand();
        away();
        piece();
        sign();
        end();
        ruleForms();
        ruleLimits();
        ruleValues();
        ruleDays();
        step();
        of();
        at();
        may();
        order();
        goes();
        count();
        correct();
        undoAndAs();
        fault();
        faults();
        pay();
        earns();
        slipsAndLeft();
        quick();
        claims();
        plan();
        planTies();
        planLearns();
        lateness();
        tried();
        ill();
        row();
        finish();
    }

    private static void newObject() {
        sentence("promise 1", "");
        TypingPool x = new TypingPool();
        for (int what = 0; what <= 12; what++) {
            due("count(" + what + ")", x.count(what), what == 9 ? 99 : 0);
        }
        due("at(0, 0)", x.at(0, 0), -1);
        due("may(0, 0)", x.may(0, 0), -1);
        dueThrow("row(0)", () -> x.row(0));
        dueThrow("of(0, 0)", () -> x.of(0, 0));
    }

    private static void post() {
        sentence("promise 2", "");
        TypingPool x = new TypingPool();
        due("post(-1)", x.post(-1), -1);
        due("post(480)", x.post(480), -1);
        due("post(0)", x.post(0), 1);
        due("post(479)", x.post(479), 2);
        due("post(479) again", x.post(479), 3);
        due("post(5)", x.post(5), 4);
        due("a fifth", x.post(6), -1);
        due("count(12)", x.count(12), 4);
    }

    private static void hand() {
        sentence("promise 3", "");
        TypingPool x = new TypingPool();
        int[][] others = {{9, 0, 0, 0}, {201, 0, 0, 0}, {10, -1, 0, 0}, {10, 256, 0, 0}, {10, 0, -1, 0},
            {10, 0, 65536, 0}, {10, 0, 0, -1}, {10, 0, 0, 4}};
        for (int[] o : others) {
            due("another", x.hand(o[0], o[1], o[2], o[3]), -1);
        }
        due("the least", x.hand(10, 0, 0, 0), 0);
        due("the most", x.hand(200, 255, 65535, 3), 1);
        due("its words", x.of(1, 1), 65535);
        for (int i = 2; i < 8; i++) {
            due("hand " + i, x.hand(60, 1, 0, 0), i);
        }
        due("a ninth", x.hand(60, 1, 0, 0), -1);
        due("count(1)", x.count(1), 8);
    }

    private static void away() {
        sentence("promise 4", "");
        TypingPool x = new TypingPool();
        x.hand(60, 1, 0, 0);
        x.step(3);
        due("ahead of now", x.away(0, 2, 9), -1);
        due("of nobody", x.away(1, 3, 9), -1);
        due("of nobody", x.away(-1, 3, 9), -1);
        due("empty", x.away(0, 3, 3), -1);
        due("back", x.away(0, 9, 8), -1);
        due("too far", x.away(0, 9, 4801), -1);
        due("from now", x.away(0, 3, 5), 1);
        due("away now", x.of(0, 5), 1);
        due("to the end", x.away(0, 4799, 4800), 2);
        x.step(2);
        due("back at 5", x.of(0, 5), 0);
        for (int i = 3; i <= 30; i++) {
            due("away " + i, x.away(0, 10, 12), i);
        }
        due("31", x.away(0, 10, 12), -1);
        due("count(5)", x.count(5), 30);
    }

    private static void piece() {
        sentence("promise 5", "");
        TypingPool x = new TypingPool();
        x.step(10);
        int[] right = {0, 0, 1, 0, 0, 10, 10, 0, 0};
        int[][] edges = {{0, 7}, {0, 7}, {1, 400}, {0, 3}, {0, 9}, {10, 4800}, {0, 4800}, {0, 65535}, {0, 6}};
        for (int i = 0; i < 9; i++) {
            int[] low = right.clone();
            low[i] = (i == 6 ? 10 : edges[i][0]) - 1;
            due("too low " + i, told(x, low), -1);
            int[] high = right.clone();
            high[i] = edges[i][1] + 1;
            due("too high " + i, told(x, high), -1);
        }
        due("count(2)", x.count(2), 0);
        due("the least", told(x, right), 0);
        due("the most", x.piece(7, 7, 400, 3, 9, 4800, 4800, 65535, 6), 1);
        due("work", x.at(0, 4), 60);
        due("work with copies", x.at(1, 4), 400 * 72);
        for (int i = 2; i < 30; i++) {
            due("piece " + i, told(x, right), i);
        }
        due("31", told(x, right), -1);
    }

    private static void sign() {
        sentence("promise 6", "");
        TypingPool x = new TypingPool();
        for (int i = 1; i <= 25; i++) {
            due("sign", x.sign(-1), 4 * i);
        }
        due("above 100", x.sign(0), -1);
        due("count(11)", x.count(11), 100);
        x.end(97);
        due("101", x.sign(0), -1);
        x.end(96);
        due("100", x.sign(0), 100);
        x.end(0);
        x.sign('1' << 24 | '+' << 16 | 'c' << 8 | '*');
        x.sign('2' << 24);
        x.end(5);
        due("in order", x.rule(0, 0), 0);
    }

    private static void end() {
        sentence("promise 7", "");
        TypingPool x = new TypingPool();
        due("end(1) of nothing", x.end(1), false);
        due("end(0) of nothing", x.end(0), true);
        x.sign(0);
        due("end(5)", x.end(5), false);
        due("end(-1)", x.end(-1), false);
        due("unchanged", x.count(11), 4);
        due("end(4)", x.end(4), true);
        due("end(3)", x.end(3), true);
        due("count(11)", x.count(11), 3);
    }

    private static void ruleForms() {
        sentence("promise 8", "");
        TypingPool x = new TypingPool();
        String[] texts = {"", "c+", "c+)", "1234", "12345", "c d", "c<1<2", "c<1&2<3", "(c<1)<2", "c<1+2<3",
            "((((((c))))))", "(((((((c", "()", "(c", "c)", "!-!c", "c!", "c--1", "c**1", "+c", "c(", "(c)c", "v",
            "c1", "1c", "c<(1<2)", "c<(1<2<3)", "~c", "c~c", "c|", "c&|", "(c)1", "0007",
            "(c<1|(c<2))<3", "c<(2)<1", "c<(1)&(c)<2", "(c)<(c<(c))<3"};
        int[] answers = {-1, -3, -3, 0, -5, -2, -4, 1, 2, -6,
            3, -7, -2, -3, -2, 4, -2, 5, -3, -1, -2, -4, -1,
            -2, -2, 6, -7, -1, -2, -3, -3, -4, 7,
            8, -6, 9, -12};
        for (int i = 0; i < texts.length; i++) {
            due("rule " + texts[i], tell(x, texts[i], 0, 0), answers[i]);
            due("the text is empty then", x.count(11), 0);
        }
        String[] letters = {"cwldspkn", "svph", "trax", "lcsof"};
        for (int kind = 0; kind < 4; kind++) {
            for (char c = 0; c < 256; c++) {
                TypingPool y = new TypingPool();
                boolean stands = letters[kind].indexOf(c) >= 0 || c >= '0' && c <= '9';
                int ends = c == '!' || c == '-' || c == '(' ? -2 : -1;
                due("sign " + (int) c + " of kind " + kind, tell(y, "" + c, kind, 0), stands ? 0 : ends);
            }
        }
    }

    private static void ruleLimits() {
        sentence("promise 8", "");
        TypingPool x = new TypingPool();
        due("60 signs", tell(x, "-".repeat(59) + "c", 0, 0), 0);
        due("61 signs", tell(x, "-".repeat(60) + "c", 0, 0), -61);
        due("60 signs that end too early", tell(x, "-".repeat(60), 0, 0), -61);
        due("an end at 60, and more", tell(x, "-".repeat(59) + "c)", 0, 0), -61);
        due("wrong ahead of 60", tell(x, "c" + "-".repeat(40) + ")".repeat(40), 0, 0), -42);
        due("wrong at 59", tell(x, "-".repeat(59) + "v" + "c".repeat(9), 0, 0), -60);
        x.sign('c' << 24);
        x.end(1);
        due("kind 4", x.rule(4, 0), -100);
        due("kind -1", x.rule(-1, 0), -100);
        due("day 10", x.rule(0, 10), -100);
        due("day -1", x.rule(0, -1), -100);
        due("the text as it was", x.count(11), 1);
        due("day 9", x.rule(0, 9), 1);
        for (int i = 2; i < 20; i++) {
            due("rule " + i, tell(x, "1", i % 4, 0), i);
        }
        due("there are 20", tell(x, "1", 0, 0), -100);
        due("there are 20, asked first", tell(x, "(", 0, 0), -100);
        due("count(3)", x.count(3), 20);
    }

    /** What a text of pay gives for a piece of 7 lines, 2 copies, of secret 1. */
    private static void ruleValues() {
        sentence("promise 8", "");
        String[] texts = {"1+2*3", "(1+2)*3", "10-3-2", "2*3-4*5", "-l", "--l", "!l", "!!l", "!0+1", "-l+1", "-l*-2",
            "l<8", "l<7", "l>7", "l=7", "1<2=0|0", "0|0", "0|l", "3&l", "3&0", "l&2|0&1", "1|1&0", "(1|1)&0",
            "1+1=2&2*2=4", "1-1|2", "9999*9999*9999", "c+s*10", "3-(2-1)", "!(l=7)", "0-9999*9999*99", "2<3+4",
            "!l=0", "1>0-5", "l-c-s", "0&1=0", "5"};
        int[] values = {7, 9, 5, -14, -7, 7, 0, 1, 2, -6, 14,
            1, 0, 0, 1, 0, 0, 1, 1, 0, 1, 1, 0,
            1, 1, 9999 * 9999 * 9999, 12, 2, 0, -(9999 * 9999 * 99), 1,
            1, 1, 4, 0, 5};
        for (int i = 0; i < texts.length; i++) {
            TypingPool x = new TypingPool();
            x.hand(200, 1, 0, 3);
            x.piece(0, 0, 7, 1, 0, 0, 100, 0, 2);
            x.step(9);
            boolean stands = !texts[i].equals("1<2=0|0");
            due("rule " + texts[i], tell(x, texts[i], 3, 0), stands ? 0 : -4);
            if (stands) {
                due("value of " + texts[i], x.pay(0), values[i]);
            }
        }
    }

    private static void ruleDays() {
        sentence("promise 8", "");
        TypingPool x = new TypingPool();
        x.hand(60, 1, 0, 0);
        plain(x, 1, 0, 4800);
        due("at first", x.order(0, 0), 9);
        tell(x, "2", 0, 2);
        due("not yet", x.order(0, 0), 9);
        tell(x, "11", 0, 1);
        tell(x, "12", 0, 1);
        x.away(0, 0, 4800);
        x.step(480);
        due("of equal days the one told last", x.order(0, 0), 12);
        x.step(479);
        due("to the end of the day", x.order(0, 0), 12);
        x.step(1);
        due("the greatest day", x.order(0, 0), 2);
        tell(x, "13", 0, 1);
        due("an earlier day told later", x.order(0, 0), 2);
        tell(x, "5", 1, 0);
        due("another kind", x.order(0, 0), 2);
    }

    private static void step() {
        sentence("promise 9", "");
        TypingPool x = new TypingPool();
        due("step(0)", x.step(0), 0);
        due("step(-1)", x.step(-1), -1);
        due("step(961)", x.step(961), -1);
        due("now", x.count(0), 0);
        for (int i = 1; i <= 4; i++) {
            due("step(960)", x.step(960), 960 * i);
        }
        due("step(959)", x.step(959), 4799);
        due("too far", x.step(2), -1);
        due("the last minute", x.step(1), 4800);
        due("too far", x.step(1), -1);
        due("step(0)", x.step(0), 4800);

        TypingPool y = new TypingPool();
        y.hand(60, 1, 0, 0);
        y.hand(60, 3, 0, 0);
        y.piece(0, 0, 2, 0, 5, 0, 50, 0, 0);
        y.piece(0, 0, 2, 0, 7, 0, 50, 0, 0);
        y.piece(0, 0, 2, 0, 7, 0, 50, 0, 0);
        y.piece(0, 1, 2, 0, 9, 1, 50, 0, 0);
        y.step(1);
        due("of equal ones the least number", y.of(0, 0), 1);
        due("the next hand", y.of(1, 0), 2);
        due("not come", y.at(3, 0), 1);
        y.step(2);
        due("hand 0 does not know style 1", y.of(0, 0), 0);
        due("hand 1 does", y.of(1, 0), 3);
        y.step(1);
        due("done", y.at(3, 3), 4);
        due("nothing left", y.of(1, 0), -1);

        TypingPool z = new TypingPool();
        z.hand(10, 1, 0, 0);
        z.piece(0, 0, 1, 0, 0, 0, 50, 3, 0);
        z.piece(0, 0, 1, 0, 0, 0, 50, 3, 0);
        z.step(1);
        due("rate of 5 at least", z.of(0, 6), 5);
        z.step(11);
        due("learnt", z.of(0, 1), 3);
        z.step(1);
        due("the next one's rate", z.of(0, 6), 10);

        TypingPool n = new TypingPool();
        tell(n, "0-n", 0, 0);
        n.hand(10, 1, 0, 0);
        n.hand(10, 1, 0, 0);
        n.piece(1, 0, 9, 0, 0, 0, 50, 0, 0);
        n.piece(2, 0, 9, 0, 0, 0, 50, 0, 0);
        n.piece(2, 0, 9, 0, 0, 0, 50, 0, 0);
        n.step(1);
        due("n counts those not taken", n.of(0, 0), 1);
        due("n is 1 for both then", n.of(1, 0), 0);
    }

    private static void of() {
        sentence("promise 10", "");
        TypingPool x = new TypingPool();
        x.hand(50, 1, 1, 0);
        x.away(0, 2, 4);
        x.piece(0, 0, 2, 0, 0, 0, 50, 6, 0);
        x.piece(0, 0, 3, 0, 0, 0, 50, 0, 0);
        int[] before = {-1, 1, 0, 0, 0, 0, -1};
        int[] within = {0, 1, 2, 0, 0, 1, 40};
        int[] after = {-1, 7, 3, 2, 1, 0, -1};
        for (int what = 0; what < 7; what++) {
            due("of(0, " + what + ")", x.of(0, what), before[what]);
        }
        x.step(3);
        for (int what = 0; what < 7; what++) {
            due("of(0, " + what + ")", x.of(0, what), within[what]);
        }
        x.step(2);
        for (int what = 0; what < 7; what++) {
            due("of(0, " + what + ")", x.of(0, what), after[what]);
        }
        x.step(4);
        due("lines", x.of(0, 3), 5);
        due("pieces", x.of(0, 4), 2);
        dueThrow("of(0, 7)", () -> x.of(0, 7));
        dueThrow("of(0, -1)", () -> x.of(0, -1));
        dueThrow("of(1, 0)", () -> x.of(1, 0));
        dueThrow("of(-1, 0)", () -> x.of(-1, 0));
    }

    private static void at() {
        sentence("promise 11", "");
        TypingPool x = new TypingPool();
        x.hand(60, 1, 0, 0);
        x.away(0, 0, 4);
        plain(x, 2, 2, 4);
        int[][] answers = {
            {0, -1, -1, -1, 120, 0, 0},
            {0, -1, -1, -1, 120, 0, 0},
            {1, -1, -1, -1, 120, 0, 0},
            {1, -1, -1, -1, 120, 0, 0},
            {1, -1, -1, -1, 120, 0, 0},
            {2, 0, 4, -1, 60, 1, 1},
            {3, 0, 4, 6, 0, 1, 2},
            {3, 0, 4, 6, 0, 1, 2}};
        for (int now = 0; now < answers.length; now++) {
            for (int what = 0; what < 7; what++) {
                due("at(0, " + what + ") at " + now, x.at(0, what), answers[now][what]);
            }
            x.step(1);
        }
        due("at(0, 7)", x.at(0, 7), -1);
        due("at(0, -1)", x.at(0, -1), -1);
        due("at(1, 0)", x.at(1, 0), -1);
        due("at(-1, 0)", x.at(-1, 0), -1);
    }

    private static void may() {
        sentence("promise 12", "");
        TypingPool x = new TypingPool();
        x.hand(60, 1, 0, 1);
        x.hand(60, 2, 0, 3);
        x.piece(4, 0, 1, 1, 0, 9, 9, 0, 0);
        x.piece(4, 0, 1, 2, 0, 9, 9, 0, 0);
        x.piece(5, 1, 1, 2, 0, 9, 9, 0, 0);
        due("leave as secret", x.may(0, 0), 1);
        due("secret above leave", x.may(0, 1), 0);
        due("another style", x.may(0, 2), 0);
        due("leave above secret", x.may(1, 2), 1);
        due("another style", x.may(1, 0), 0);
        due("none such", x.may(2, 0), -1);
        due("none such", x.may(0, 3), -1);
        due("none such", x.may(-1, 0), -1);
        due("none such", x.may(0, -1), -1);
        tell(x, "(p=4)-(h+1)*(s-v)", 1, 0);
        due("1 - 0", x.may(0, 0), 1);
        due("1 - 1", x.may(0, 1), 0);
        due("0 + 2 * 1", x.may(1, 2), 1);
        tell(x, "0-1", 1, 1);
        due("tomorrow", x.may(0, 1), 0);
        x.step(480);
        due("below 0 is not 0", x.may(0, 1), 1);
    }

    private static void order() {
        sentence("promise 13", "");
        TypingPool x = new TypingPool();
        x.hand(60, 1, 1, 0);
        x.hand(60, 1, 0, 0);
        x.away(0, 0, 100);
        x.away(1, 0, 100);
        x.piece(6, 0, 30, 2, 8, 3, 50, 7, 0);
        x.piece(6, 0, 30, 2, 8, 5, 50, 7, 0);
        x.piece(5, 0, 30, 2, 8, 0, 50, 7, 0);
        due("9-c", x.order(0, 0), 1);
        String[] letters = {"c", "w", "l", "d", "s", "p", "k", "n"};
        int[] atNought = {8, -3, 30, 50, 2, 6, 2, 0};
        int[] atSeven = {8, 4, 30, 43, 2, 6, 2, 2};
        for (int i = 0; i < 8; i++) {
            tell(x, letters[i], 0, 0);
            due(letters[i] + " at 0", x.order(0, 0), atNought[i]);
        }
        tell(x, "k", 0, 0);
        due("k of the other hand", x.order(1, 0), 3);
        x.step(7);
        for (int i = 0; i < 8; i++) {
            tell(x, letters[i], 0, 0);
            due(letters[i] + " at 7", x.order(0, 0), atSeven[i]);
        }
        dueThrow("order(2, 0)", () -> x.order(2, 0));
        dueThrow("order(-1, 0)", () -> x.order(-1, 0));
        dueThrow("order(0, 3)", () -> x.order(0, 3));
        dueThrow("order(0, -1)", () -> x.order(0, -1));
    }

    private static void goes() {
        sentence("promise 14", "");
        TypingPool x = new TypingPool();
        x.hand(60, 1, 0, 0);
        plain(x, 10, 0, 100);
        plain(x, 1, 20, 100);
        plain(x, 9, 4791, 4800);
        x.step(20);
        due("no posts", x.goes(0), -1);
        x.post(100);
        x.post(9);
        due("behind", x.goes(0), 100);
        due("not done", x.goes(1), -1);
        x.post(10);
        due("at", x.goes(0), 10);
        due("none such", x.goes(3), -1);
        due("none such", x.goes(-1), -1);
        x.step(1);
        due("done at 21", x.goes(1), 100);
        for (int i = 0; i < 4; i++) {
            x.step(960);
        }
        x.step(939);
        due("done at 4800", x.at(2, 3), 4800);
        due("the first one behind", x.goes(2), 4809);
        TypingPool y = new TypingPool();
        y.hand(60, 1, 0, 0);
        y.post(3);
        plain(y, 10, 0, 100);
        y.step(10);
        due("on the next day", y.goes(0), 483);
    }

    private static void count() {
        sentence("promise 15", "");
        TypingPool x = new TypingPool();
        x.hand(60, 1, 0, 0);
        x.hand(60, 0, 0, 0);
        x.away(1, 0, 2);
        plain(x, 1, 0, 0);
        plain(x, 2, 0, 9);
        plain(x, 2, 0, 9);
        plain(x, 2, 0, 1);
        plain(x, 2, 9, 9);
        x.post(1);
        x.post(2);
        x.post(3);
        tell(x, "1", 0, 0);
        x.step(2);
        x.correct(0, 0, 0, 0, 0);
        x.correct(0, 0, 0, 0, 0);
        x.as(7);
        x.sign(0);
        x.tried(-1, 0);
        int[] answers = {2, 2, 5, 1, 2, 1, 2, 1, 2, 7, 8, 4, 3};
        for (int what = 0; what < 13; what++) {
            due("count(" + what + ")", x.count(what), answers[what]);
        }
        due("count(13)", x.count(13), -1);
        due("count(-1)", x.count(-1), -1);
    }

    private static void correct() {
        sentence("promise 16", "");
        TypingPool x = new TypingPool();
        x.hand(60, 1, 0, 0);
        plain(x, 1, 0, 9);
        plain(x, 9, 0, 9);
        due("not done", x.correct(0, 0, 0, 0, 0), -1);
        x.step(1);
        due("not done", x.correct(1, 0, 0, 0, 0), -1);
        due("none such", x.correct(2, 0, 0, 0, 0), -1);
        due("none such", x.correct(-1, 0, 0, 0, 0), -1);
        due("day 100", x.correct(0, 100, 0, 0, 0), -1);
        due("day -1", x.correct(0, -1, 0, 0, 0), -1);
        due("t 2", x.correct(0, 0, 2, 0, 0), -1);
        due("r 2", x.correct(0, 0, 0, 2, 0), -1);
        due("a 2", x.correct(0, 0, 0, 0, 2), -1);
        due("t -1", x.correct(0, 0, -1, 0, 0), -1);
        due("r -1", x.correct(0, 0, 0, -1, 0), -1);
        due("a -1", x.correct(0, 0, 0, 0, -1), -1);
        for (int i = 0; i < 40; i++) {
            due("correction " + i, x.correct(0, i % 2 * 99, i & 1, i >> 1 & 1, i >> 2 & 1), i);
        }
        due("41", x.correct(0, 0, 0, 0, 0), -1);
        due("count(4)", x.count(4), 40);
    }

    private static void undoAndAs() {
        sentence("promise 17", "");
        TypingPool x = new TypingPool();
        x.hand(60, 1, 0, 0);
        plain(x, 1, 0, 9);
        x.step(1);
        x.correct(0, 5, 0, 0, 0);
        due("none such", x.undo(1, 0), false);
        due("none such", x.undo(-1, 0), false);
        due("day 100", x.undo(0, 100), false);
        due("day -1", x.undo(0, -1), false);
        due("still known", x.fault(0), 1);
        due("undo", x.undo(0, 99), true);
        due("undone on 99", x.fault(0), -1);
        x.as(98);
        due("known on 98", x.fault(0), 1);
        due("told again", x.undo(0, 7), true);
        due("undone on 98", x.fault(0), -1);
        x.as(6);
        due("known on 6", x.fault(0), 1);
        x.as(7);
        due("undone on 7", x.fault(0), -1);
        due("later again", x.undo(0, 8), true);
        due("known on 7", x.fault(0), 1);
        due("ahead of knowing", x.undo(0, 0), true);
        due("never known", x.fault(0), -1);
        sentence("promise 18", "");
        due("as(100)", x.as(100), -1);
        due("as(-1)", x.as(-1), -1);
        due("unchanged", x.as(0), 7);
        due("what it was", x.as(99), 0);
        due("count(9)", x.count(9), 99);
    }

    private static void fault() {
        sentence("promise 19", "");
        TypingPool x = new TypingPool();
        x.hand(60, 1, 1, 0);
        x.piece(0, 0, 1, 0, 0, 0, 9, 1, 0);
        x.piece(0, 0, 1, 0, 0, 0, 9, 3, 0);
        x.step(3);
        int[] author = {1, 0, 0, 0};
        for (int i = 0; i < 4; i++) {
            x.correct(0, 3, i & 1, 1, i >> 1);
            due("(1-t)*(1-a)", x.fault(i), author[i]);
        }
        due("none such", x.fault(4), -1);
        due("none such", x.fault(-1), -1);
        x.as(2);
        due("not known on 2", x.fault(0), -1);
        x.as(3);
        due("known on 3", x.fault(0), 1);
        tell(x, "t*4+r*2+a", 2, 3);
        due("2", x.fault(0), 2);
        due("6 is the author's", x.fault(1), 0);
        due("3 is the author's", x.fault(2), 0);
        tell(x, "x", 2, 4);
        due("a later day's rule", x.fault(0), 2);
        x.as(99);
        due("by the day from which it is known", x.fault(0), 2);
        x.correct(0, 4, 1, 1, 1);
        x.correct(1, 50, 1, 1, 1);
        due("knew all words", x.fault(4), 1);
        due("did not know all", x.fault(5), 0);
        tell(x, "-1", 2, 9);
        due("below 0 is the author's", x.fault(5), 0);
    }

    private static void faults() {
        sentence("promise 20", "");
        TypingPool x = new TypingPool();
        x.hand(60, 1, 0, 0);
        x.hand(60, 2, 0, 0);
        x.piece(0, 0, 1, 0, 0, 0, 9, 0, 0);
        x.piece(0, 1, 1, 0, 0, 0, 9, 0, 0);
        x.piece(0, 0, 1, 0, 0, 0, 9, 0, 0);
        x.step(2);
        tell(x, "t+2*r", 2, 0);
        x.correct(0, 1, 1, 0, 0);
        x.correct(2, 2, 1, 0, 0);
        x.correct(0, 3, 0, 1, 0);
        x.correct(1, 4, 1, 1, 0);
        x.correct(1, 5, 1, 0, 0);
        int[][] answers = {{0, 2, 1}, {1, 1, 0}};
        for (int hand = 0; hand < 2; hand++) {
            for (int kind = 0; kind < 3; kind++) {
                due("faults(" + hand + ", " + kind + ")", x.faults(hand, kind), answers[hand][kind]);
            }
        }
        x.as(2);
        due("known on 2", x.faults(0, 2), 0);
        due("known on 2", x.faults(0, 1), 2);
        due("known on 2", x.faults(1, 1), 0);
        x.undo(0, 2);
        due("undone", x.faults(0, 1), 1);
        due("kind 3", x.faults(0, 3), -1);
        due("kind -1", x.faults(0, -1), -1);
        due("none such", x.faults(2, 0), -1);
        due("none such", x.faults(-1, 0), -1);
    }

    private static void pay() {
        sentence("promise 21", "");
        TypingPool x = new TypingPool();
        x.hand(60, 1, 0, 3);
        x.piece(0, 0, 30, 2, 0, 470, 490, 0, 5);
        x.step(480);
        due("not done", x.pay(0), 0);
        x.step(30);
        due("done", x.at(0, 3), 505);
        due("l", x.pay(0), 30);
        x.correct(0, 1, 0, 0, 0);
        x.correct(0, 1, 0, 0, 0);
        x.correct(0, 9, 0, 0, 0);
        x.correct(0, 1, 1, 0, 0);
        tell(x, "1", 3, 2);
        due("a later day's", x.pay(0), 30);
        String[] letters = {"l", "c", "s", "o", "f"};
        int[] values = {30, 5, 2, 15, 3};
        for (int i = 0; i < 5; i++) {
            tell(x, letters[i], 3, 1);
            due(letters[i], x.pay(0), values[i]);
        }
        x.as(8);
        due("f as known on 8", x.pay(0), 2);
        x.undo(0, 8);
        due("f as undone on 8", x.pay(0), 1);
        dueThrow("pay(1)", () -> x.pay(1));
        dueThrow("pay(-1)", () -> x.pay(-1));
    }

    private static void earns() {
        sentence("promise 22", "");
        TypingPool x = new TypingPool();
        x.hand(60, 1, 0, 0);
        x.hand(60, 2, 0, 0);
        plain(x, 9, 470, 490);
        plain(x, 1, 479, 480);
        x.piece(0, 1, 100, 0, 0, 0, 480, 0, 0);
        plain(x, 2, 4798, 4800);
        plain(x, 3, 4790, 4800);
        plain(x, 400, 4500, 4800);
        x.away(0, 500, 4790);
        x.step(960);
        due("done at 479", x.at(0, 3), 479);
        due("done at 480", x.at(1, 3), 480);
        due("day 0", x.earns(0, 0), 9);
        due("day 1", x.earns(0, 1), 1);
        due("day 2", x.earns(0, 2), 0);
        due("all", x.earns(0, -1), 10);
        due("the other", x.earns(1, -1), 100);
        due("day 9", x.earns(0, 9), 0);
        dueThrow("day 10", () -> x.earns(0, 10));
        dueThrow("day 11", () -> x.earns(0, 11));
        dueThrow("day -2", () -> x.earns(0, -2));
        dueThrow("none such", () -> x.earns(2, 0));
        dueThrow("none such", () -> x.earns(-1, 0));
        TypingPool y = new TypingPool();
        y.hand(60, 1, 0, 0);
        plain(y, 3, 4797, 4800);
        for (int i = 0; i < 5; i++) {
            y.step(960);
        }
        due("done at 4800", y.at(0, 3), 4800);
        due("which is not of day 9", y.earns(0, 9), 0);
        dueThrow("and 10 is no day", () -> y.earns(0, 10));
        due("but all have it", y.earns(0, -1), 3);
    }

    private static void slipsAndLeft() {
        sentence("promise 23", "");
        TypingPool x = new TypingPool();
        plain(x, 9, 0, 490);
        plain(x, 9, 0, 490);
        due("bits 65536", x.slips(0, 0, 65536), false);
        due("bits -1", x.slips(0, 0, -1), false);
        due("reader 2", x.slips(0, 2, 1), false);
        due("reader -1", x.slips(0, -1, 1), false);
        due("none such", x.slips(2, 0, 1), false);
        due("none such", x.slips(-1, 0, 1), false);
        due("nothing found", x.left(0, 1), 0);
        due("bits 0", x.slips(0, 1, 0), true);
        due("told", x.slips(1, 0, 3), true);
        due("told again", x.slips(1, 0, 0), true);
        sentence("promise 24", "");
        due("none together", x.left(0, 0), -1);
        due("all by one", x.slips(0, 0, 65535), true);
        due("none together", x.left(0, 0), -1);
        due("found", x.left(0, 1), 16);
        x.slips(0, 0, 0b1111100);
        x.slips(0, 1, 0b0001111);
        due("3 * 2 by 2", x.left(0, 0), 3);
        due("found by one or both", x.left(0, 1), 7);
        due("found by both", x.left(0, 2), 2);
        x.slips(0, 0, 0b11111110);
        x.slips(0, 1, 0b00001111);
        due("4 * 1 by 3, cut", x.left(0, 0), 1);
        x.slips(0, 0, 0b1111);
        due("nothing left", x.left(0, 0), 0);
        due("the other piece", x.left(1, 1), 0);
        due("what 3", x.left(0, 3), -1);
        due("what -1", x.left(0, -1), -1);
        due("none such", x.left(2, 1), -1);
        due("none such", x.left(-1, 1), -1);
    }

    private static void quick() {
        sentence("promise 25", "");
        TypingPool x = new TypingPool();
        x.hand(100, 1, 0, 0);
        x.away(0, 1, 3);
        due("did not work", x.quick(0, 0), -1);
        x.piece(0, 0, 7, 0, 0, 0, 100, 0, 1);
        plain(x, 100, 0, 100);
        x.step(2);
        due("none done yet", x.quick(0, 0), 0);
        x.step(7);
        due("worked", x.of(0, 2), 7);
        due("7 lines in 7 minutes", x.quick(0, 0), 60);
        due("8 minutes (7.23 rounded up) in 7", x.quick(0, 1), 1142);
        x.step(1);
        due("cut", x.quick(0, 0), 52);
        plain(x, 50, 10, 100);
        x.step(100);
        due("three done", x.of(0, 4), 3);
        due("worked", x.of(0, 2), 95);
        due("157 lines in 95 minutes", x.quick(0, 0), 99);
        due("158 minutes in 95", x.quick(0, 1), 1663);
        due("what 2", x.quick(0, 2), -1);
        due("what -1", x.quick(0, -1), -1);
        due("none such", x.quick(1, 0), -1);
        due("none such", x.quick(-1, 0), -1);
    }

    private static void claims() {
        sentence("promise 26", "");
        TypingPool x = new TypingPool();
        x.hand(60, 1, 0, 0);
        x.piece(3, 0, 10, 0, 7, 0, 480, 0, 0);
        x.piece(3, 0, 20, 0, 9, 5, 484, 0, 0);
        x.piece(3, 0, 30, 0, 6, 7, 600, 0, 0);
        x.piece(3, 0, 40, 0, 8, 479, 960, 0, 0);
        x.piece(3, 0, 50, 0, 8, 480, 961, 0, 0);
        x.piece(3, 1, 60, 0, 8, 0, 2, 0, 0);
        x.piece(2, 0, 1, 0, 0, 0, 0, 0, 0);
        x.step(15);
        due("waited", x.claims(3, 0), 5);
        due("pieces", x.claims(3, 1), 6);
        due("late", x.claims(3, 2), 1);
        due("haste claimed", x.claims(3, 3), 3);
        due("lines of the day", x.claims(3, 4), 160);
        due("another waits", x.claims(2, 0), 0);
        due("another late", x.claims(2, 2), 1);
        due("another", x.claims(2, 1), 1);
        due("an empty one", x.claims(7, 1), 0);
        due("department 0", x.claims(0, 0), 0);
        due("department 8", x.claims(8, 1), -1);
        due("department -1", x.claims(-1, 1), -1);
        due("what 5", x.claims(3, 5), -1);
        due("what -1", x.claims(3, -1), -1);
        x.step(465);
        due("lines of the next day", x.claims(3, 4), 50);
    }

    private static void plan() {
        sentence("promise 27", "");
        TypingPool x = new TypingPool();
        x.hand(60, 1, 0, 0);
        x.hand(60, 1, 0, 0);
        x.hand(60, 1, 0, 0);
        x.hand(60, 2, 0, 0);
        plain(x, 10, 0, 9);
        plain(x, 10, 0, 20);
        for (int i = 2; i < 6; i++) {
            plain(x, 1, 0, 100);
        }
        x.piece(0, 1, 5, 0, 0, 0, 100, 0, 0);
        plain(x, 1, 1, 100);
        due("no pieces", x.plan(0, 1), -1);
        due("no hands", x.plan(1, 0), -1);
        due("six pieces", x.plan(63, 1), -1);
        due("four hands", x.plan(1, 15), -1);
        due("not come", x.plan(128, 1), -1);
        due("none such", x.plan(256, 1), -1);
        due("none such", x.plan(Integer.MIN_VALUE | 1, 1), -1);
        due("no such hand", x.plan(1, 16), -1);
        due("no such hand", x.plan(1, Integer.MIN_VALUE | 1), -1);
        due("nobody may", x.plan(65, 1), -2);
        due("others first", x.plan(65, 16), -1);
        due("no row yet", x.count(10), 0);
        due("the late one last", x.plan(3, 1), 1);
        dueRow(x, 0, 1, -1);
        due("each their own", x.plan(67, 9), 1);
        dueRow(x, 0, 1, -1, 6, -1);
        due("refused", x.plan(65, 1), -2);
        due("refused", x.plan(0, 1), -1);
        dueRow(x, 0, 1, -1, 6, -1);
        x.step(1);
        due("0 is taken", x.plan(1, 1), -1);
        due("7 has come", x.plan(128, 1), 0);
        due("five and three", x.plan(0b10111000, 7), 0);
    }

    private static void planTies() {
        sentence("promise 27", "");
        TypingPool x = new TypingPool();
        x.hand(60, 1, 0, 0);
        x.hand(60, 1, 0, 0);
        plain(x, 1, 0, 100);
        plain(x, 1, 0, 100);
        due("none late", x.plan(3, 3), 0);
        dueRow(x, -1, 0, 1, -1);
        plain(x, 10, 0, 10);
        due("2 alone or first", x.plan(7, 3), 0);
        dueRow(x, -1, 2, 0, 1, -1);
        plain(x, 10, 0, 10);
        due("2 and 3 on two hands", x.plan(15, 3), 0);
        dueRow(x, 2, -1, 3, 0, 1, -1);

        TypingPool y = new TypingPool();
        y.hand(60, 1, 0, 0);
        plain(y, 10, 0, 19);
        plain(y, 10, 0, 10);
        plain(y, 10, 0, 10);
        due("fewest late, then the least lateness", y.plan(7, 1), 2);
        due("lateness", y.lateness(7, 1), 21);
        dueRow(y, 1, 0, 2, -1);
        TypingPool z = new TypingPool();
        z.hand(60, 1, 0, 0);
        plain(z, 100, 0, 99);
        plain(z, 1, 0, 1);
        plain(z, 1, 0, 2);
        due("one late at most", z.plan(7, 1), 1);
        dueRow(z, 1, 2, 0, -1);
    }

    private static void planLearns() {
        sentence("promise 27", "");
        TypingPool x = new TypingPool();
        x.hand(60, 1, 0, 0);
        x.piece(0, 0, 1, 0, 9, 0, 100, 2, 0);
        x.piece(0, 0, 4, 0, 0, 0, 100, 1, 0);
        x.piece(0, 0, 4, 0, 0, 0, 7, 1, 0);
        due("55 at first, 60 behind the first", x.lateness(6, 1), 0);
        x.step(1);
        due("5 of the first left", x.at(0, 4), 5);
        due("2 minutes, then 5, then 4", x.plan(6, 1), 0);
        dueRow(x, 2, 1, -1);
        x.away(0, 3, 6);
        due("three minutes more", x.plan(4, 1), 1);
        due("done at 10", x.lateness(4, 1), 3);
        x.away(0, 5, 8);
        due("done at 12", x.lateness(4, 1), 5);
        x.away(0, 1, 2);
        due("told last, though ahead: done at 13", x.lateness(4, 1), 6);
        TypingPool y = new TypingPool();
        y.hand(10, 1, 0, 0);
        y.piece(0, 0, 400, 0, 0, 0, 0, 0, 0);
        due("it goes on behind the last day", y.lateness(1, 1), 2400);
        y.away(0, 0, 4800);
        due("it goes on behind the last day", y.lateness(1, 1), 7200);
        TypingPool z = new TypingPool();
        z.hand(60, 1, 0, 0);
        plain(z, 600 / 60, 0, 480);
        tell(z, "0", 1, 1);
        z.away(0, 0, 480);
        due("as the rules are on the day of now", z.plan(1, 1), 1);
        z.step(480);
        due("today nobody may", z.plan(1, 1), -2);
    }

    private static void lateness() {
        sentence("promise 28", "");
        TypingPool x = new TypingPool();
        x.hand(60, 1, 0, 0);
        plain(x, 10, 0, 5);
        plain(x, 20, 0, 5);
        x.piece(0, 1, 20, 0, 0, 0, 100, 0, 0);
        x.tried(-1, 0);
        due("5 and 25", x.lateness(3, 1), 30);
        due("no row told", x.count(10), 8);
        due("nobody may", x.lateness(4, 1), -2);
        due("none such", x.lateness(8, 1), -1);
        due("no hands", x.lateness(1, 0), -1);
        due("nothing", x.lateness(0, 1), -1);
    }

    private static void tried() {
        sentence("promise 29", "");
        TypingPool x = new TypingPool();
        x.hand(60, 1, 1, 0);
        x.hand(60, 2, 0, 0);
        x.piece(7, 0, 10, 0, 9, 0, 100, 2, 0);
        x.piece(0, 0, 10, 0, 0, 0, 10, 0, 0);
        x.piece(4, 1, 5, 1, 0, 0, 10, 0, 0);
        due("d", tell(x, "d", 0, 9), 0);
        due("1", tell(x, "1", 1, 9), 1);
        due("pay", tell(x, "1", 3, 0), 2);
        due("fault", tell(x, "1", 2, 0), 3);
        due("no rule", x.tried(-1, 21), 2);
        dueRow(x, 11, 0, 0, 0, 0, 0, 0, 0);
        due("by what is due", x.tried(0, 21), 1);
        dueRow(x, 0, 0, 0, 0, 0, 0, 0, 10);
        due("all may", x.tried(1, 21), 1);
        dueRow(x, 11, 0, 0, 0, 0, 0, 0, 0);
        due("no minutes", x.tried(0, 0), 0);
        dueRow(x, 0, 0, 0, 0, 0, 0, 0, 0);
        due("960", x.tried(0, 960), 1);
        due("pay", x.tried(2, 5), -1);
        due("fault", x.tried(3, 5), -1);
        due("none such", x.tried(4, 5), -1);
        due("none such", x.tried(-2, 5), -1);
        due("961", x.tried(0, 961), -1);
        due("-1", x.tried(0, -1), -1);
        int[] hand = {-1, 1, 0, 0, 0, 0, -1};
        int[] piece = {1, -1, -1, -1, 600, 0, 0};
        for (int what = 0; what < 7; what++) {
            due("as it was", x.of(0, what), hand[what]);
            due("as it was", x.at(0, what), piece[what]);
        }
        due("now", x.count(0), 0);
        for (int i = 0; i < 4; i++) {
            x.step(960);
        }
        x.step(950);
        due("to the end", x.tried(-1, 10), 2);
        due("too far", x.tried(-1, 11), -1);
    }

    private static void ill() {
        sentence("promise 30", "");
        TypingPool x = new TypingPool();
        x.hand(60, 1, 0, 0);
        x.hand(60, 3, 0, 0);
        plain(x, 10, 0, 10);
        x.piece(0, 1, 10, 0, 0, 2, 12, 0, 0);
        due("0 ill: 1 does 0, and then 1 too late", x.ill(0, 13), 1);
        due("1 ill: piece 1 not done", x.ill(1, 13), 1);
        due("not late yet", x.ill(1, 12), 0);
        due("one minute", x.ill(1, 1), 0);
        due("no row", x.count(10), 0);
        due("now", x.count(0), 0);
        due("not away", x.of(1, 5), 0);
        dueThrow("none such", () -> x.ill(2, 5));
        dueThrow("none such", () -> x.ill(-1, 5));
        dueThrow("0 minutes", () -> x.ill(0, 0));
        dueThrow("961 minutes", () -> x.ill(0, 961));
        TypingPool y = new TypingPool();
        y.hand(10, 1, 0, 0);
        y.hand(60, 1, 0, 0);
        y.piece(0, 0, 10, 0, 9, 0, 10, 0, 0);
        y.piece(0, 0, 1, 0, 0, 0, 100, 0, 0);
        due("a slow one ill: fewer late", y.ill(0, 20), -1);
        for (int i = 0; i < 4; i++) {
            y.step(960);
        }
        y.step(955);
        due("to the end", y.ill(0, 5), 0);
        dueThrow("too far", () -> y.ill(0, 6));
    }

    private static void row() {
        sentence("promise 31", "");
        TypingPool x = new TypingPool();
        dueThrow("nothing told", () -> x.row(0));
        x.tried(-1, 0);
        due("row(7)", x.row(7), 0);
        dueThrow("row(8)", () -> x.row(8));
        dueThrow("row(-1)", () -> x.row(-1));
        x.hand(60, 1, 0, 0);
        plain(x, 1, 0, 9);
        x.plan(1, 1);
        dueRow(x, 0, -1);
        x.lateness(1, 1);
        x.ill(0, 9);
        x.tried(-1, 961);
        x.step(3);
        dueRow(x, 0, -1);
    }
}
