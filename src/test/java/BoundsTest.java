/**
 * Each sentence of the promises that names a boundary case, but for the promises 6 to 8, which
 * RuleTextsTest has. What a refused call leaves as it was stands in RefusedCallsTest.
 */
public final class BoundsTest extends Checks {
    private static final int LEAST = Integer.MIN_VALUE;
    private static final int MOST = Integer.MAX_VALUE;

    public static void main(String[] args) {
        runAll(BoundsTest.class);
    }

    /** Numbers that nothing has, of which there are so many. */
    private static int[] noneOf(int count) {
        return new int[] {-1, -2, count, count + 1, 32, 64, LEAST, MOST};
    }

    /** A pool in which a hand of speed 60 has done one piece of one line at minute 1. */
    private static TypingPool poolWithOneDone() {
        TypingPool x = poolWith(60);
        plain(x, 1, 0, 4800);
        x.step(1);
        return x;
    }

    // ---- 1

    static void p01Nothing() {
        sentence("promise 1", "Nothing there");
        TypingPool x = new TypingPool();
        for (int what = 1; what <= 12; what++) {
            due("count(" + what + ")", x.count(what), what == 9 ? 99 : 0);
        }
        for (int department = 0; department < 8; department++) {
            for (int what = 0; what < 5; what++) {
                due("claims(" + department + ", " + what + ")", x.claims(department, what), 0);
            }
        }
        due("at(0, 0)", x.at(0, 0), -1);
        due("goes(0)", x.goes(0), -1);
        due("fault(0)", x.fault(0), -1);
        due("plan(1, 1)", x.plan(1, 1), -1);
        dueThrow("of(0, 0)", () -> x.of(0, 0));
        dueThrow("pay(0)", () -> x.pay(0));
        dueThrow("row(0)", () -> x.row(0));
        dueThrow("ill(0, 1)", () -> x.ill(0, 1));
        due("the whole time goes by with nobody there", x.step(960), 960);
    }

    static void p01NowIsNought() {
        sentence("promise 1", "NOW 0");
        TypingPool x = new TypingPool();
        due("now", x.count(0), 0);
        due("a piece that comes at 0", plain(x, 1, 0, 0), 0);
        due("it has come", x.at(0, 0), 1);
        TypingPool y = new TypingPool();
        y.step(5);
        due("another one's now is its own", new TypingPool().count(0), 0);
    }

    // ---- 2

    static void p02HowMany() {
        sentence("promise 2", "A POST more: how many");
        TypingPool x = new TypingPool();
        int[] minutes = {0, 479, 479, 0};
        for (int i = 0; i < 4; i++) {
            due("post(" + minutes[i] + ")", x.post(minutes[i]), i + 1);
        }
    }

    static void p02Refused() {
        sentence("promise 2", "Refused: others, 4");
        TypingPool x = new TypingPool();
        int[] others = {-1, 480, LEAST, MOST};
        for (int minute : others) {
            due("post(" + minute + ")", x.post(minute), -1);
        }
        due("none told", x.count(12), 0);
        for (int i = 1; i <= 4; i++) {
            x.post(100);
        }
        due("a fifth", x.post(100), -1);
        due("four", x.count(12), 4);
    }

    // ---- 3

    static void p03ItsNumber() {
        sentence("promise 3", "A HAND: its number");
        TypingPool x = new TypingPool();
        due("the first", x.hand(10, 0, 0, 0), 0);
        due("one refused", x.hand(9, 0, 0, 0), -1);
        due("the second", x.hand(200, 255, 65535, 3), 1);
        x.step(100);
        due("one told later", x.hand(60, 1, 0, 0), 2);
    }

    static void p03Refused() {
        sentence("promise 3", "Refused: others, 8");
        int[][] others = {{9, 0, 0, 0}, {201, 0, 0, 0}, {10, -1, 0, 0}, {10, 256, 0, 0}, {10, 0, -1, 0},
            {10, 0, 65536, 0}, {10, 0, 0, -1}, {10, 0, 0, 4}, {LEAST, 0, 0, 0}, {MOST, MOST, MOST, MOST}};
        TypingPool x = new TypingPool();
        for (int[] o : others) {
            due("another", x.hand(o[0], o[1], o[2], o[3]), -1);
        }
        for (int i = 0; i < 8; i++) {
            x.hand(60, 1, 0, 0);
        }
        due("a ninth", x.hand(60, 1, 0, 0), -1);
        dueThrow("of the ninth", () -> x.of(8, 0));
    }

    // ---- 4

    static void p04HowManyWereTold() {
        sentence("promise 4", "A HAND is AWAY: how many were told");
        TypingPool x = poolWith(60);
        x.hand(60, 1, 0, 0);
        due("one", x.away(0, 5, 6), 1);
        due("of another hand", x.away(1, 0, 9), 2);
        due("the same again", x.away(0, 5, 6), 3);
        x.step(100);
        due("those that are over count", x.away(0, 100, 101), 4);
    }

    static void p04NoSuchHand() {
        sentence("promise 4", "Refused: others");
        TypingPool x = poolWith(60);
        for (int hand : noneOf(1)) {
            due("away(" + hand + ", 0, 1)", x.away(hand, 0, 1), -1);
        }
        due("none told", x.count(5), 0);
    }

    static void p04FromNow() {
        sentence("promise 4", "(from NOW on at least");
        TypingPool x = poolWith(60);
        due("at 0 from -1", x.away(0, -1, 5), -1);
        due("at 0 from 0", x.away(0, 0, 5), 1);
        x.step(10);
        due("at 10 from 9", x.away(0, 9, 20), -1);
        due("at 10 from the least int", x.away(0, LEAST, 20), -1);
        due("at 10 from 10", x.away(0, 10, 20), 2);
        due("it is away now", x.of(0, 5), 1);
        due("at 10 from 11", x.away(0, 11, 20), 3);
    }

    static void p04ToAboveFrom() {
        sentence("promise 4", "to above from");
        TypingPool x = poolWith(60);
        due("to the same", x.away(0, 5, 5), -1);
        due("to one less", x.away(0, 5, 4), -1);
        due("to the least int", x.away(0, 5, LEAST), -1);
        due("to one more", x.away(0, 5, 6), 1);
    }

    static void p04To4800() {
        sentence("promise 4", "4800 at most)");
        TypingPool x = poolWith(60);
        due("to 4801", x.away(0, 5, 4801), -1);
        due("to the greatest int", x.away(0, 5, MOST), -1);
        due("from 4800 to 4801", x.away(0, 4800, 4801), -1);
        due("from 4800 to 4800", x.away(0, 4800, 4800), -1);
        due("from the greatest int", x.away(0, MOST, LEAST), -1);
        due("to 4800", x.away(0, 0, 4800), 1);
        due("from 4799", x.away(0, 4799, 4800), 2);
        goTo(x, 4800);
        due("nothing can be told at 4800", x.away(0, 4800, 4801), -1);
    }

    static void p04Thirty() {
        sentence("promise 4", ", 30");
        TypingPool x = poolWith(60);
        for (int i = 1; i <= 30; i++) {
            due("away " + i, x.away(0, 0, 1), i);
        }
        due("31", x.away(0, 0, 1), -1);
        x.step(2);
        due("31, all others over", x.away(0, 2, 3), -1);
    }

    // ---- 5

    static void p05ItsNumber() {
        sentence("promise 5", "A PIECE: its number");
        TypingPool x = new TypingPool();
        due("the first", plain(x, 1, 0, 0), 0);
        due("one refused", plain(x, 0, 0, 0), -1);
        due("the second", plain(x, 1, 0, 0), 1);
    }

    static void p05ComesAtNowOrBehind() {
        sentence("promise 5", "(it COMES at NOW or behind)");
        TypingPool x = new TypingPool();
        due("at 0 from -1", plain(x, 1, -1, 9), -1);
        x.step(100);
        due("at 100 from 99", plain(x, 1, 99, 200), -1);
        due("at 100 from 0", plain(x, 1, 0, 200), -1);
        due("at 100 from 100", plain(x, 1, 100, 200), 0);
        due("it waits", x.at(0, 0), 1);
        due("at 100 from 101", plain(x, 1, 101, 200), 1);
        due("it has not come", x.at(1, 0), 0);
        goTo(x, 4800);
        due("at 4800 from 4799", plain(x, 1, 4799, 4800), -1);
        due("at 4800 from 4800", plain(x, 1, 4800, 4800), 2);
    }

    static void p05Thirty() {
        sentence("promise 5", ", 30");
        TypingPool x = new TypingPool();
        for (int i = 0; i < 30; i++) {
            due("piece " + i, plain(x, 1, 0, 0), i);
        }
        due("31", plain(x, 1, 0, 0), -1);
        due("at(30, 0)", x.at(30, 0), -1);
    }

    // ---- 9

    static void p09From0To960() {
        sentence("promise 9", "n MINUTES (0 .. 960): NOW");
        TypingPool x = poolWith(60);
        plain(x, 1, 0, 9);
        due("step(0)", x.step(0), 0);
        due("nothing went on", x.at(0, 0), 1);
        due("step(1)", x.step(1), 1);
        due("one minute went on", x.at(0, 0), 3);
        due("step(960)", x.step(960), 961);
        due("step(959)", x.step(959), 1920);
    }

    static void p09Others() {
        sentence("promise 9", "Refused: others");
        TypingPool x = new TypingPool();
        int[] others = {-1, 961, LEAST, MOST};
        for (int n : others) {
            due("step(" + n + ")", x.step(n), -1);
            due("now", x.count(0), 0);
        }
    }

    static void p09Above4800() {
        sentence("promise 9", "NOW and n above 4800");
        TypingPool x = new TypingPool();
        goTo(x, 3841);
        due("step(960) at 3841", x.step(960), -1);
        due("step(959) at 3841", x.step(959), 4800);
        due("step(1) at 4800", x.step(1), -1);
        due("step(960) at 4800", x.step(960), -1);
        due("step(0) at 4800", x.step(0), 4800);
        TypingPool y = new TypingPool();
        goTo(y, 3840);
        due("step(960) at 3840", y.step(960), 4800);
    }

    static void p09OneByOne() {
        sentence("promise 9", "n MINUTES");
        TypingPool x = busy();
        TypingPool y = busy();
        x.step(400);
        for (int i = 0; i < 40; i++) {
            y.step(10);
        }
        for (int p = 0; p < 6; p++) {
            for (int what = 0; what < 7; what++) {
                due("at(" + p + ", " + what + ")", x.at(p, what), y.at(p, what));
            }
        }
        due("done", x.count(7), y.count(7));
    }

    private static TypingPool busy() {
        TypingPool x = poolWith(60);
        x.hand(37, 3, 1, 2);
        x.away(0, 15, 33);
        x.away(1, 1, 40);
        for (int p = 0; p < 6; p++) {
            x.piece(p, p % 2, 11 * p + 5, p % 3, p, 7 * p, 60 + p, p, p);
        }
        return x;
    }

    // ---- 10

    static void p10WhatItHas() {
        sentence("promise 10", "what 0: the PIECE that it has (NONE)");
        TypingPool x = poolWith(60);
        plain(x, 2, 1, 9);
        int[] answers = {-1, -1, 0, -1, -1};
        for (int minute = 0; minute < answers.length; minute++) {
            due("at " + minute, x.of(0, 0), answers[minute]);
            x.step(1);
        }
    }

    static void p10Words() {
        sentence("promise 10", "1: WORDS that it knows");
        TypingPool x = new TypingPool();
        x.hand(60, 1, 0, 0);
        x.hand(60, 1, 65535, 0);
        x.piece(0, 0, 1, 0, 0, 0, 9, 65535, 0);
        due("none", x.of(0, 1), 0);
        due("all", x.of(1, 1), 65535);
        x.step(11);
        due("ahead of its end", x.of(0, 1), 0);
        x.step(1);
        due("learnt", x.of(0, 1), 65535);
    }

    static void p10Worked() {
        sentence("promise 10", "2: MINUTES that it worked");
        TypingPool x = poolWith(60);
        plain(x, 3, 2, 9);
        x.away(0, 3, 5);
        int[] answers = {0, 0, 0, 1, 1, 1, 2, 3, 3};
        for (int minute = 0; minute < answers.length; minute++) {
            due("at " + minute, x.of(0, 2), answers[minute]);
            x.step(1);
        }
    }

    static void p10LinesAndPieces() {
        sentence("promise 10", "3: LINES of PIECES that it has DONE, 4: PIECES DONE");
        TypingPool x = poolWith(60);
        x.hand(60, 2, 0, 0);
        plain(x, 2, 0, 9);
        plain(x, 3, 0, 9);
        x.piece(0, 1, 1, 0, 0, 0, 9, 0, 0);
        int[] lines = {0, 0, 2, 2, 2, 5};
        int[] pieces = {0, 0, 1, 1, 1, 2};
        for (int minute = 0; minute < lines.length; minute++) {
            due("lines at " + minute, x.of(0, 3), lines[minute]);
            due("pieces at " + minute, x.of(0, 4), pieces[minute]);
            x.step(1);
        }
        due("the other's", x.of(1, 3) * 10 + x.of(1, 4), 11);
    }

    static void p10AwayNow() {
        sentence("promise 10", "5: whether it is AWAY NOW (1, 0)");
        TypingPool x = poolWith(60);
        for (int i = 1; i < 8; i++) {
            x.hand(60, 1, 0, 0);
        }
        x.away(7, 0, 1);
        x.away(3, 1, 2);
        for (int minute = 0; minute < 3; minute++) {
            for (int h = 0; h < 8; h++) {
                boolean away = h == 7 && minute == 0 || h == 3 && minute == 1;
                due("hand " + h + " at " + minute, x.of(h, 5), away ? 1 : 0);
            }
            x.step(1);
        }
    }

    static void p10Rate() {
        sentence("promise 10", "6: RATE of what it has (NONE)");
        TypingPool x = poolWith(10);
        x.piece(0, 0, 1, 0, 0, 0, 9, 65535, 0);
        due("has none", x.of(0, 6), -1);
        x.step(11);
        due("5", x.of(0, 6), 5);
        x.step(1);
        due("done", x.of(0, 6), -1);
    }

    static void p10NoneSuch() {
        sentence("promise 10", "NoSuchElementException: none such, another what");
        TypingPool x = poolWith(60);
        for (int hand : noneOf(1)) {
            for (int what = 0; what < 7; what++) {
                int asked = what;
                dueThrow("of(" + hand + ", " + what + ")", () -> x.of(hand, asked));
            }
        }
        for (int what : noneOf(7)) {
            dueThrow("of(0, " + what + ")", () -> x.of(0, what));
        }
    }

    // ---- 11

    static void p11State() {
        sentence("promise 11", "what 0: state (0 not COME yet, 1 waits, 2 taken, 3 DONE)");
        TypingPool x = poolWith(60);
        x.away(0, 0, 3);
        plain(x, 2, 2, 9);
        int[] answers = {0, 0, 1, 1, 2, 3, 3};
        for (int minute = 0; minute < answers.length; minute++) {
            due("at " + minute, x.at(0, 0), answers[minute]);
            x.step(1);
        }
    }

    static void p11HandAndMinutes() {
        sentence("promise 11", "1: its HAND (NONE), 2: the MINUTE at which it was taken (NONE), 3: at which it was DONE (NONE)");
        TypingPool x = poolWith(60);
        x.away(0, 0, 3);
        plain(x, 2, 2, 9);
        int[][] answers = {{-1, -1, -1}, {-1, -1, -1}, {-1, -1, -1}, {-1, -1, -1}, {0, 3, -1}, {0, 3, 5}, {0, 3, 5}};
        for (int minute = 0; minute < answers.length; minute++) {
            for (int what = 1; what <= 3; what++) {
                due("what " + what + " at " + minute, x.at(0, what), answers[minute][what - 1]);
            }
            x.step(1);
        }
        TypingPool y = poolWith(60);
        plain(y, 1, 0, 9);
        plain(y, 1, 4799, 4800);
        goTo(y, 4800);
        due("taken at 0", y.at(0, 2), 0);
        due("done at 4800", y.at(1, 3), 4800);
    }

    static void p11WorkLeft() {
        sentence("promise 11", "4: WORK left");
        TypingPool x = poolWith(50);
        x.piece(0, 0, 2, 0, 0, 1, 9, 0, 1);
        int[] answers = {124, 124, 74, 24, 0, 0};
        for (int minute = 0; minute < answers.length; minute++) {
            due("at " + minute, x.at(0, 4), answers[minute]);
            x.step(1);
        }
    }

    static void p11MinutesLate() {
        sentence("promise 11", "5: LATE (1, 0), 6: MINUTES LATE (0 at least; if it is not DONE as of NOW)");
        TypingPool x = poolWith(60);
        plain(x, 4, 0, 2);
        x.piece(0, 1, 1, 0, 0, 0, 2, 0, 0);
        int[] late = {0, 0, 0, 1, 2, 2, 2};
        int[] never = {0, 0, 0, 1, 2, 3, 4};
        for (int minute = 0; minute < late.length; minute++) {
            due("late at " + minute, x.at(0, 5), Math.min(1, late[minute]));
            due("minutes at " + minute, x.at(0, 6), late[minute]);
            due("one not taken at " + minute, x.at(1, 6), never[minute]);
            x.step(1);
        }
        TypingPool y = new TypingPool();
        plain(y, 1, 0, 0);
        plain(y, 1, 4800, 4800);
        goTo(y, 4800);
        due("all the time", y.at(0, 6), 4800);
        due("due at the last minute", y.at(1, 5), 0);
    }

    static void p11NoneSuch() {
        sentence("promise 11", "NONE: none such, another what");
        TypingPool x = poolWithOneDone();
        for (int piece : noneOf(1)) {
            for (int what = 0; what < 7; what++) {
                due("at(" + piece + ", " + what + ")", x.at(piece, what), -1);
            }
        }
        for (int what : noneOf(7)) {
            due("at(0, " + what + ")", x.at(0, what), -1);
        }
    }

    // ---- 12

    static void p12MayNow() {
        sentence("promise 12", "Whether a HAND MAY do a PIECE NOW: 1, 0");
        TypingPool x = poolWith(60);
        plain(x, 1, 100, 200);
        x.piece(0, 7, 1, 0, 0, 0, 9, 0, 0);
        x.piece(0, 0, 1, 3, 0, 0, 9, 0, 0);
        x.away(0, 0, 50);
        due("not come, the hand away", x.may(0, 0), 1);
        due("style", x.may(0, 1), 0);
        due("secret", x.may(0, 2), 0);
        tell(x, "-1", 1, 0);
        due("not 0", x.may(0, 2), 1);
        x.step(200);
        due("done", x.may(0, 0), 1);
    }

    static void p12NoneSuch() {
        sentence("promise 12", "NONE: none such");
        TypingPool x = poolWithOneDone();
        for (int none : noneOf(1)) {
            due("may(" + none + ", 0)", x.may(none, 0), -1);
            due("may(0, " + none + ")", x.may(0, none), -1);
            due("may(" + none + ", " + none + ")", x.may(none, none), -1);
        }
    }

    // ---- 13

    static void p13OrderNow() {
        sentence("promise 13", "What RULE ORDER gives for a HAND and a PIECE NOW");
        TypingPool x = poolWith(60);
        x.hand(60, 0, 3, 0);
        x.piece(0, 0, 2, 0, 0, 0, 9, 7, 0);
        tell(x, "k*100+d*10+n", 0, 0);
        due("hand 0 at 0", x.order(0, 0), 391);
        due("hand 1 at 0, which may not", x.order(1, 0), 191);
        x.step(1);
        due("taken, at 1", x.order(0, 0), 380);
        x.step(2);
        due("done, at 3", x.order(0, 0), 60);
    }

    static void p13NoneSuch() {
        sentence("promise 13", "NoSuchElementException: none such");
        TypingPool x = poolWithOneDone();
        for (int none : noneOf(1)) {
            dueThrow("order(" + none + ", 0)", () -> x.order(none, 0));
            dueThrow("order(0, " + none + ")", () -> x.order(0, none));
            dueThrow("order(" + none + ", " + none + ")", () -> x.order(none, none));
        }
    }

    // ---- 14

    /** When a piece that is done at a minute goes by some posts. */
    private static int goesAt(int done, int... posts) {
        TypingPool x = poolWith(60);
        plain(x, 1, done - 1, 4800);
        for (int post : posts) {
            x.post(post);
        }
        goTo(x, done);
        due("done", x.at(0, 3), done);
        return x.goes(0);
    }

    static void p14AtOrBehind() {
        sentence("promise 14", "the first one at or behind that at which it is DONE");
        due("at", goesAt(100, 100), 100);
        due("a minute behind", goesAt(100, 101), 101);
        due("a minute ahead", goesAt(100, 99), 579);
        due("the first of more", goesAt(100, 300, 200, 250), 200);
        due("the first of more", goesAt(100, 10, 20, 5, 50), 485);
        due("the next day's and this day's", goesAt(100, 10, 479), 479);
        due("at the last minute of a day", goesAt(479, 479), 479);
        due("behind the last one of a day", goesAt(479, 478), 958);
        due("at the first minute of a day", goesAt(480, 0), 480);
        due("from the last minute to the first", goesAt(479, 0), 480);
        due("from the first minute on", goesAt(1, 0), 480);
        due("on day 9", goesAt(4799, 479), 4799);
        due("at 4800", goesAt(4800, 0), 4800);
        due("behind 4800", goesAt(4800, 479), 5279);
        due("two at the same", goesAt(4321, 1, 1), 4321);
    }

    static void p14None() {
        sentence("promise 14", "NONE: none such, not DONE, no POSTS");
        TypingPool x = poolWith(60);
        plain(x, 2, 1, 9);
        due("not come, no posts", x.goes(0), -1);
        x.post(0);
        for (int minute = 0; minute < 3; minute++) {
            due("not done at " + minute, x.goes(0), -1);
            x.step(1);
        }
        due("done", x.goes(0), 480);
        for (int none : noneOf(1)) {
            due("goes(" + none + ")", x.goes(none), -1);
        }
        TypingPool y = poolWithOneDone();
        due("done, no posts", y.goes(0), -1);
        y.post(5);
        due("a post told later", y.goes(0), 5);
    }

    // ---- 15

    static void p15EachCount() {
        sentence("promise 15", "What 0: NOW, 1: HANDS, .. 12: POSTS");
        TypingPool x = poolWith(60);
        x.hand(60, 0, 0, 0);
        x.hand(60, 0, 0, 0);
        plain(x, 1, 0, 1);
        plain(x, 5, 0, 2);
        plain(x, 5, 0, 2);
        plain(x, 5, 0, 3);
        plain(x, 5, 4, 4);
        x.away(1, 3, 4);
        x.away(1, 3, 4);
        x.step(3);
        x.correct(0, 0, 0, 0, 0);
        for (int i = 0; i < 4; i++) {
            tell(x, "1", 0, 0);
            x.post(i);
        }
        x.as(17);
        x.plan(8, 1);
        x.sign(0);
        x.sign(0);
        x.end(7);
        int[] answers = {3, 3, 5, 4, 1, 2, 2, 1, 2, 17, 2, 7, 4};
        for (int what = 0; what < answers.length; what++) {
            due("count(" + what + ")", x.count(what), answers[what]);
        }
    }

    static void p15AnotherWhat() {
        sentence("promise 15", "NONE for another what");
        TypingPool x = poolWithOneDone();
        for (int what : noneOf(13)) {
            due("count(" + what + ")", x.count(what), -1);
        }
    }

    // ---- 16

    static void p16ItsNumber() {
        sentence("promise 16", "A CORRECTION: its number");
        TypingPool x = poolWithOneDone();
        due("the first", x.correct(0, 0, 0, 0, 0), 0);
        due("one refused", x.correct(0, 100, 0, 0, 0), -1);
        due("the second, of the same", x.correct(0, 99, 1, 1, 1), 1);
    }

    static void p16Refused() {
        sentence("promise 16", "Refused: no such PIECE, not DONE, others, 40");
        TypingPool x = poolWithOneDone();
        plain(x, 1, 1, 9);
        for (int none : noneOf(2)) {
            due("of piece " + none, x.correct(none, 0, 0, 0, 0), -1);
        }
        due("not done", x.correct(1, 0, 0, 0, 0), -1);
        int[][] others = {{-1, 0, 0, 0}, {100, 0, 0, 0}, {0, -1, 0, 0}, {0, 2, 0, 0}, {0, 0, -1, 0}, {0, 0, 2, 0},
            {0, 0, 0, -1}, {0, 0, 0, 2}, {LEAST, 0, 0, 0}, {MOST, 0, 0, 0}, {0, LEAST, MOST, LEAST}};
        for (int[] o : others) {
            due("another", x.correct(0, o[0], o[1], o[2], o[3]), -1);
        }
        due("none told", x.count(4), 0);
        for (int i = 0; i < 40; i++) {
            due("correction " + i, x.correct(0, 99, 0, 1, 0), i);
        }
        due("41", x.correct(0, 99, 0, 1, 0), -1);
        due("fault of the 41st", x.fault(40), -1);
    }

    // ---- 17

    static void p17From0To99() {
        sentence("promise 17", "A CORRECTION is UNDONE from a DAY (0 .. 99) on");
        TypingPool x = poolWithOneDone();
        x.correct(0, 0, 0, 0, 0);
        due("undo(0, 99)", x.undo(0, 99), true);
        due("on 99", x.fault(0), -1);
        x.as(98);
        due("on 98", x.fault(0), 1);
        due("undo(0, 0)", x.undo(0, 0), true);
        x.as(0);
        due("on 0", x.fault(0), -1);
        int[] others = {-1, 100, LEAST, MOST};
        for (int day : others) {
            due("undo(0, " + day + ")", x.undo(0, day), false);
            due("as it was", x.fault(0), -1);
        }
    }

    static void p17ToldAgain() {
        sentence("promise 17", "(told again: from then): true");
        TypingPool x = poolWithOneDone();
        x.correct(0, 0, 0, 0, 0);
        x.as(50);
        due("from 10", x.undo(0, 10), true);
        due("on 50", x.fault(0), -1);
        due("from 51", x.undo(0, 51), true);
        due("on 50", x.fault(0), 1);
        due("from 50", x.undo(0, 50), true);
        due("on 50", x.fault(0), -1);
        due("from 50 again", x.undo(0, 50), true);
    }

    static void p17NoneSuch() {
        sentence("promise 17", "Refused: none such");
        TypingPool x = poolWithOneDone();
        due("none at all", x.undo(0, 5), false);
        x.correct(0, 0, 0, 0, 0);
        for (int none : noneOf(1)) {
            due("undo(" + none + ", 0)", x.undo(none, 0), false);
        }
        due("as it was", x.fault(0), 1);
    }

    // ---- 18

    static void p18WhatItWas() {
        sentence("promise 18", "AS becomes a DAY: what it was");
        TypingPool x = new TypingPool();
        due("as(0)", x.as(0), 99);
        due("as(0)", x.as(0), 0);
        due("as(99)", x.as(99), 0);
        due("as(5)", x.as(5), 99);
        due("count(9)", x.count(9), 5);
    }

    static void p18Others() {
        sentence("promise 18", "Refused: others");
        TypingPool x = new TypingPool();
        x.as(5);
        int[] others = {-1, 100, LEAST, MOST};
        for (int day : others) {
            due("as(" + day + ")", x.as(day), -1);
            due("count(9)", x.count(9), 5);
        }
    }

    // ---- 19

    static void p19Whose() {
        sentence("promise 19", "Whose fault a CORRECTION is (0 the author's, 1, 2)");
        TypingPool x = poolWithOneDone();
        tell(x, "t+r+a", 2, 0);
        int[] faults = {0, 1, 1, 2, 1, 2, 2, 0};
        for (int i = 0; i < 8; i++) {
            x.correct(0, 0, i & 1, i >> 1 & 1, i >> 2 & 1);
            due("fault(" + i + ")", x.fault(i), faults[i]);
        }
    }

    static void p19None() {
        sentence("promise 19", "NONE: none such, not KNOWN on AS");
        TypingPool x = poolWithOneDone();
        due("none at all", x.fault(0), -1);
        x.correct(0, 7, 0, 0, 0);
        for (int none : noneOf(1)) {
            due("fault(" + none + ")", x.fault(none), -1);
        }
        x.as(6);
        due("on 6", x.fault(0), -1);
        x.as(7);
        due("on 7", x.fault(0), 1);
        x.undo(0, 7);
        due("undone on 7", x.fault(0), -1);
    }

    // ---- 20

    static void p20KnownOnAs() {
        sentence("promise 20", "How many CORRECTIONS KNOWN on AS are a HAND's fault (kind 1)");
        TypingPool x = poolWith(60);
        x.hand(60, 2, 0, 0);
        plain(x, 1, 0, 9);
        x.piece(0, 1, 1, 0, 0, 0, 9, 0, 0);
        x.step(1);
        for (int i = 0; i < 3; i++) {
            x.correct(0, 10 * i, 0, 0, 0);
        }
        x.correct(1, 0, 0, 0, 0);
        int[] days = {0, 9, 10, 19, 20, 99};
        int[] faults = {1, 1, 2, 2, 3, 3};
        for (int i = 0; i < days.length; i++) {
            x.as(days[i]);
            due("on " + days[i], x.faults(0, 1), faults[i]);
            due("the other's on " + days[i], x.faults(1, 1), 1);
        }
        x.undo(0, 99);
        due("undone on 99", x.faults(0, 1), 2);
        x.as(98);
        due("on 98", x.faults(0, 1), 3);
    }

    static void p20OfItsPieces() {
        sentence("promise 20", "of those that lay with its PIECES the reader's (2), the author's (0)");
        TypingPool x = poolWith(60);
        x.hand(60, 2, 0, 0);
        plain(x, 1, 0, 9);
        x.piece(0, 1, 1, 0, 0, 0, 9, 0, 0);
        x.step(1);
        tell(x, "t+2*r", 2, 0);
        int[][] told = {{0, 0, 0}, {0, 1, 1}, {0, 0, 1}, {1, 0, 1}, {1, 0, 0}, {1, 0, 0}, {1, 1, 0}};
        for (int[] c : told) {
            x.correct(c[0], 3, c[1], c[2], 0);
        }
        int[][] answers = {{2, 0, 1}, {2, 1, 1}};
        for (int hand = 0; hand < 2; hand++) {
            for (int kind = 0; kind < 3; kind++) {
                due("faults(" + hand + ", " + kind + ")", x.faults(hand, kind), answers[hand][kind]);
            }
        }
        x.as(2);
        due("none known", x.faults(0, 0) + x.faults(0, 2) + x.faults(1, 0) + x.faults(1, 1), 0);
    }

    static void p20Others() {
        sentence("promise 20", "NONE: others");
        TypingPool x = poolWithOneDone();
        x.correct(0, 0, 0, 0, 0);
        for (int none : noneOf(1)) {
            for (int kind = 0; kind < 3; kind++) {
                due("faults(" + none + ", " + kind + ")", x.faults(none, kind), -1);
            }
        }
        for (int kind : noneOf(3)) {
            due("faults(0, " + kind + ")", x.faults(0, kind), -1);
        }
    }

    // ---- 21

    static void p21NotDone() {
        sentence("promise 21", "PAY of a PIECE; 0, if it is not DONE");
        TypingPool x = poolWith(60);
        plain(x, 2, 1, 9);
        tell(x, "7", 3, 0);
        int[] answers = {0, 0, 0, 7, 7};
        for (int minute = 0; minute < answers.length; minute++) {
            due("at " + minute, x.pay(0), answers[minute]);
            x.step(1);
        }
        tell(x, "-7", 3, 0);
        due("it may be below 0", x.pay(0), -7);
    }

    static void p21NoneSuch() {
        sentence("promise 21", "NoSuchElementException: none such");
        TypingPool x = poolWithOneDone();
        for (int none : noneOf(1)) {
            dueThrow("pay(" + none + ")", () -> x.pay(none));
        }
    }

    // ---- 22

    static void p22OnADay() {
        sentence("promise 22", "The sum of PAY of a HAND's PIECES DONE on a DAY");
        TypingPool x = poolWith(60);
        x.hand(60, 2, 0, 0);
        int[] done = {1, 479, 480, 481, 959, 960, 4319, 4320, 4799, 4800};
        for (int i = 0; i < done.length; i++) {
            x.piece(0, 0, 1, 0, 0, done[i] - 1, 4800, 0, 0);
        }
        x.piece(0, 1, 5, 0, 0, 0, 4800, 0, 0);
        goTo(x, 4800);
        due("all done", x.count(7), 11);
        int[] sums = {2, 3, 1, 0, 0, 0, 0, 0, 1, 2};
        for (int day = 0; day < 10; day++) {
            due("day " + day, x.earns(0, day), sums[day]);
            due("the other's day " + day, x.earns(1, day), day == 0 ? 5 : 0);
        }
    }

    static void p22All() {
        sentence("promise 22", "(NONE: all)");
        TypingPool x = poolWith(60);
        plain(x, 1, 0, 9);
        plain(x, 2, 4797, 4800);
        plain(x, 4, 4799, 4800);
        due("none yet", x.earns(0, -1), 0);
        goTo(x, 4799);
        due("done at 1 and 4799", x.earns(0, -1), 3);
        TypingPool y = poolWith(60);
        plain(y, 1, 0, 9);
        plain(y, 2, 4798, 4800);
        goTo(y, 4800);
        due("done at 1 and 4800", y.earns(0, -1), 3);
    }

    static void p22Others() {
        sentence("promise 22", "NoSuchElementException: others");
        TypingPool x = poolWithOneDone();
        for (int none : noneOf(1)) {
            dueThrow("earns(" + none + ", 0)", () -> x.earns(none, 0));
            dueThrow("earns(" + none + ", -1)", () -> x.earns(none, -1));
        }
        int[] days = {-2, 10, 11, 99, LEAST, MOST};
        for (int day : days) {
            dueThrow("earns(0, " + day + ")", () -> x.earns(0, day));
        }
    }

    // ---- 23

    static void p23Told() {
        sentence("promise 23", "SLIPS that a reader found: true");
        TypingPool x = new TypingPool();
        plain(x, 1, 5, 9);
        due("reader 0", x.slips(0, 0, 0b0111), true);
        due("reader 1", x.slips(0, 1, 0b1110), true);
        due("both", x.left(0, 2), 2);
        due("told again, in place of those", x.slips(0, 0, 0b1000), true);
        due("found", x.left(0, 1), 3);
        due("both", x.left(0, 2), 1);
        due("nothing", x.slips(0, 1, 0), true);
        due("found", x.left(0, 1), 1);
    }

    static void p23Refused() {
        sentence("promise 23", "Refused: others, bits not 0 .. 65535");
        TypingPool x = poolWithOneDone();
        x.slips(0, 0, 5);
        for (int none : noneOf(1)) {
            due("slips(" + none + ", 0, 0)", x.slips(none, 0, 0), false);
        }
        for (int reader : noneOf(2)) {
            due("slips(0, " + reader + ", 0)", x.slips(0, reader, 0), false);
        }
        int[] bits = {-1, 65536, LEAST, MOST};
        for (int b : bits) {
            due("slips(0, 0, " + b + ")", x.slips(0, 0, b), false);
            due("slips(0, 1, " + b + ")", x.slips(0, 1, b), false);
        }
        due("as it was", x.left(0, 1), 2);
    }

    // ---- 24

    static void p24ByOneOrBoth() {
        sentence("promise 24", "how many SLIPS were found by one or both: 1; by both: 2");
        int[][] answers = {{0, 0, 0, 0}, {65535, 0, 16, 0}, {0, 65535, 16, 0}, {65535, 65535, 16, 16},
            {0xAAAA, 0x5555, 16, 0}, {0x8000, 0x8000, 1, 1}, {1, 0x8000, 2, 0}, {7, 14, 4, 2}};
        for (int[] a : answers) {
            TypingPool x = new TypingPool();
            plain(x, 1, 0, 0);
            plain(x, 1, 0, 0);
            x.slips(0, 0, a[0]);
            x.slips(0, 1, a[1]);
            due("by one or both", x.left(0, 1), a[2]);
            due("by both", x.left(0, 2), a[3]);
            due("of another piece", x.left(1, 1), 0);
        }
    }

    static void p24None() {
        sentence("promise 24", "NONE: none such, another what");
        TypingPool x = poolWithOneDone();
        x.slips(0, 0, 1);
        x.slips(0, 1, 1);
        for (int none : noneOf(1)) {
            for (int what = 0; what < 3; what++) {
                due("left(" + none + ", " + what + ")", x.left(none, what), -1);
            }
        }
        for (int what : noneOf(3)) {
            due("left(0, " + what + ")", x.left(0, what), -1);
        }
    }

    // ---- 25

    static void p25LinesIn60() {
        sentence("promise 25", "LINES DONE by a HAND in 60 MINUTES that it worked (cut), what 0");
        int[][] answers = {{60, 1, 60}, {59, 1, 30}, {200, 400, 200}, {10, 1, 10}, {200, 1, 60}, {50, 3, 45},
            {70, 8, 68}};
        for (int[] a : answers) {
            TypingPool x = poolWith(a[0]);
            plain(x, a[1], 0, 4800);
            x.step(960);
            due(a[1] + " lines at " + a[0], x.quick(0, 0), a[2]);
        }
        TypingPool y = poolWith(60);
        plain(y, 2, 0, 9);
        plain(y, 5, 0, 9);
        y.step(1);
        due("none done yet", y.quick(0, 0), 0);
        y.step(2);
        due("2 lines in 3 minutes", y.quick(0, 0), 40);
        y.step(4);
        due("7 lines in 7 minutes", y.quick(0, 0), 60);
        y.step(99);
        due("minutes without work do not count", y.quick(0, 0), 60);
    }

    static void p25OneOfSpeed60() {
        sentence("promise 25", "those that one of SPEED 60 that knows all WORDS would have needed for its PIECES that are DONE (each by its WORK, rounded up), cut");
        int[][] answers = {{60, 1, 0, 1000}, {60, 1, 1, 1000}, {120, 1, 1, 2000}, {30, 1, 0, 500}, {200, 10, 3, 2750},
            {70, 8, 0, 1142}, {10, 400, 0, 166}};
        for (int[] a : answers) {
            TypingPool x = poolWith(a[0]);
            x.piece(0, 0, a[1], 0, 0, 0, 4800, 0, a[2]);
            goTo(x, 4800);
            due(a[1] + " lines and " + a[2] + " copies at " + a[0], x.quick(0, 1), a[3]);
        }
        TypingPool y = poolWith(60);
        y.piece(0, 0, 1, 0, 0, 0, 9, 0, 1);
        y.piece(0, 0, 1, 0, 0, 0, 9, 0, 1);
        y.piece(0, 0, 90, 0, 0, 0, 9, 3, 0);
        y.step(4);
        due("62 and 62, each rounded up: 4 in 4", y.quick(0, 1), 1000);
        y.step(1);
        due("what is not done does not count: 4 in 5", y.quick(0, 1), 800);
        y.step(107);
        due("5400 at 50: 94 in 112", y.quick(0, 1), 839);
    }

    static void p25None() {
        sentence("promise 25", "NONE: none such, it did not work, another what");
        TypingPool x = poolWith(60);
        x.away(0, 0, 2);
        plain(x, 2, 0, 9);
        for (int minute = 0; minute < 3; minute++) {
            due("at " + minute, x.quick(0, 0), -1);
            due("at " + minute, x.quick(0, 1), -1);
            x.step(1);
        }
        due("it has worked a minute", x.quick(0, 0), 0);
        due("it has worked a minute", x.quick(0, 1), 0);
        for (int none : noneOf(1)) {
            due("quick(" + none + ", 0)", x.quick(none, 0), -1);
            due("quick(" + none + ", 1)", x.quick(none, 1), -1);
        }
        for (int what : noneOf(2)) {
            due("quick(0, " + what + ")", x.quick(0, what), -1);
        }
    }

    // ---- 26

    static void p26Waited() {
        sentence("promise 26", "what 0: MINUTES that its PIECES that were taken waited till then, in all");
        TypingPool x = poolWith(60);
        x.piece(7, 0, 2, 0, 9, 0, 9, 0, 0);
        x.piece(7, 0, 3, 0, 8, 1, 9, 0, 0);
        x.piece(7, 0, 1, 0, 7, 1, 9, 0, 0);
        x.piece(7, 1, 1, 0, 0, 0, 9, 0, 0);
        x.piece(6, 0, 1, 0, 0, 0, 9, 0, 0);
        int[] sevens = {0, 0, 0, 1, 1, 1, 5, 5};
        int[] sixes = {0, 0, 0, 0, 0, 0, 0, 6};
        for (int minute = 0; minute < sevens.length; minute++) {
            due("department 7 at " + minute, x.claims(7, 0), sevens[minute]);
            due("department 6 at " + minute, x.claims(6, 0), sixes[minute]);
            x.step(1);
        }
        TypingPool y = poolWith(60);
        y.away(0, 0, 4799);
        plain(y, 1, 0, 9);
        goTo(y, 4800);
        due("all the time", y.claims(0, 0), 4799);
    }

    static void p26PiecesAndLate() {
        sentence("promise 26", "1: PIECES, 2: LATE ones");
        TypingPool x = poolWith(60);
        x.piece(1, 0, 3, 0, 9, 0, 3, 0, 0);
        x.piece(1, 0, 3, 0, 8, 0, 5, 0, 0);
        x.piece(1, 1, 3, 0, 8, 0, 4, 0, 0);
        x.piece(2, 1, 3, 0, 8, 4, 4, 0, 0);
        int[] ones = {0, 0, 0, 0, 0, 1, 2, 2};
        int[] twos = {0, 0, 0, 0, 0, 1, 1, 1};
        for (int minute = 0; minute < ones.length; minute++) {
            due("pieces of 1", x.claims(1, 1), 3);
            due("pieces of 2", x.claims(2, 1), 1);
            due("late of 1 at " + minute, x.claims(1, 2), ones[minute]);
            due("late of 2 at " + minute, x.claims(2, 2), twos[minute]);
            x.step(1);
        }
    }

    static void p26ClaimOf7() {
        sentence("promise 26", "3: with a CLAIM of 7 or more that are DUE 480 MINUTES or more behind COMING");
        int[][] answers = {{7, 10, 490, 1}, {7, 10, 489, 0}, {7, 10, 491, 1}, {6, 10, 490, 0}, {6, 10, 4800, 0},
            {8, 0, 480, 1}, {9, 0, 4800, 1}, {9, 0, 479, 0}, {9, 4320, 4800, 1}, {9, 4321, 4800, 0}, {0, 0, 480, 0}};
        for (int[] a : answers) {
            TypingPool x = new TypingPool();
            x.piece(3, 0, 1, 0, a[0], a[1], a[2], 0, 0);
            due("claim " + a[0] + " from " + a[1] + " to " + a[2], x.claims(3, 3), a[3]);
            due("another department", x.claims(4, 3), 0);
        }
    }

    static void p26LinesOfTheDay() {
        sentence("promise 26", "4: LINES that COME on the DAY of NOW");
        TypingPool x = new TypingPool();
        int[] comes = {0, 479, 480, 959, 960, 4319, 4320, 4799};
        for (int i = 0; i < comes.length; i++) {
            x.piece(5, 0, 1 << i, 0, 0, comes[i], 4800, 0, 0);
        }
        x.piece(4, 0, 100, 0, 0, 480, 4800, 0, 0);
        int[] lines = {3, 12, 16, 0, 0, 0, 0, 0, 32, 192};
        for (int day = 0; day < 10; day++) {
            due("first minute of day " + day, x.claims(5, 4), lines[day]);
            due("department 4 on day " + day, x.claims(4, 4), day == 1 ? 100 : 0);
            x.step(479);
            due("last minute of day " + day, x.claims(5, 4), lines[day]);
            x.step(1);
        }
    }

    static void p26Others() {
        sentence("promise 26", "NONE: others");
        TypingPool x = poolWithOneDone();
        for (int department : noneOf(8)) {
            for (int what = 0; what < 5; what++) {
                due("claims(" + department + ", " + what + ")", x.claims(department, what), -1);
            }
        }
        for (int what : noneOf(5)) {
            due("claims(0, " + what + ")", x.claims(0, what), -1);
        }
    }

    // ---- 27

    static void p27FewestLate() {
        sentence("promise 27", "the fewest LATE");
        TypingPool x = poolWith(60);
        plain(x, 100, 0, 100);
        plain(x, 1, 0, 1);
        plain(x, 1, 0, 2);
        plain(x, 1, 0, 3);
        due("one late by 3, not three by 100 each", x.plan(15, 1), 1);
        dueRow(x, 1, 2, 3, 0, -1);
        TypingPool y = poolWith(60);
        plain(y, 10, 0, 10);
        plain(y, 10, 0, 19);
        plain(y, 1, 0, 0);
        due("two late by 1 and 11, not three by 1, 1 and 2", y.plan(7, 1), 2);
        dueRow(y, 2, 1, 0, -1);
    }

    static void p27ThenLeastLateness() {
        sentence("promise 27", "then the least LATENESS in all");
        TypingPool x = poolWith(60);
        plain(x, 10, 0, 0);
        plain(x, 5, 0, 0);
        plain(x, 1, 0, 0);
        due("all late", x.plan(7, 1), 3);
        dueRow(x, 2, 1, 0, -1);
        due("1 and 6 and 16", x.lateness(7, 1), 23);
        TypingPool y = poolWith(60);
        y.hand(120, 1, 0, 0);
        plain(y, 10, 0, 0);
        due("late with both", y.plan(1, 3), 1);
        dueRow(y, -1, 0, -1);
        due("the quicker one", y.lateness(1, 3), 5);
        due("the other alone", y.lateness(1, 1), 10);
    }

    static void p27ThenTheFirstRow() {
        sentence("promise 27", "then the first row");
        TypingPool x = poolWith(60);
        x.hand(60, 1, 0, 0);
        x.hand(60, 1, 0, 0);
        for (int i = 0; i < 5; i++) {
            plain(x, 1, 0, 4800);
        }
        due("one hand", x.plan(0b11111, 1), 0);
        dueRow(x, 0, 1, 2, 3, 4, -1);
        due("one hand", x.plan(0b10110, 4), 0);
        dueRow(x, 1, 2, 4, -1);
        TypingPool y = poolWith(60);
        y.hand(60, 1, 0, 0);
        plain(y, 5, 0, 5);
        plain(y, 5, 0, 5);
        due("0 to the first", y.plan(3, 3), 0);
        dueRow(y, 0, -1, 1, -1);
        TypingPool z = poolWith(60);
        plain(z, 5, 0, 3);
        plain(z, 5, 0, 3);
        due("equal by turns", z.plan(3, 1), 2);
        dueRow(z, 0, 1, -1);
    }

    static void p27TheRow() {
        sentence("promise 27", "the ROW: HAND by HAND its PIECES in order, NONE behind each HAND's");
        TypingPool x = new TypingPool();
        for (int h = 0; h < 8; h++) {
            x.hand(60, 1 << h, 0, 0);
        }
        int[] styles = {7, 2, 5, 7, 2};
        for (int i = 0; i < styles.length; i++) {
            x.piece(0, styles[i], 1, 0, 0, 0, 4800, 0, 0);
        }
        due("three hands, five pieces", x.plan(31, 1 << 2 | 1 << 5 | 1 << 7), 0);
        dueRow(x, 1, 4, -1, 2, -1, 0, 3, -1);
        due("one with nothing to do", x.plan(1, 1 << 1 | 1 << 7), 0);
        dueRow(x, -1, 0, -1);
        due("by number, two behind", x.plan(1, 1 << 7 | 1 << 6 | 1 << 0), 0);
        dueRow(x, -1, -1, 0, -1);
    }

    static void p27NobodyMay() {
        sentence("promise 27", "-2: none such (some PIECE nobody of them MAY do)");
        TypingPool x = poolWith(60);
        x.hand(60, 2, 0, 0);
        x.hand(60, 1, 0, 3);
        plain(x, 1, 0, 9);
        x.piece(0, 1, 1, 0, 0, 0, 9, 0, 0);
        x.piece(0, 0, 1, 3, 0, 0, 9, 0, 0);
        x.piece(0, 2, 1, 0, 0, 0, 9, 0, 0);
        due("another style", x.plan(2, 1), -2);
        due("a secret", x.plan(4, 1), -2);
        due("a secret, two hands", x.plan(4, 3), -2);
        due("hand 2 may", x.plan(4, 4), 0);
        due("one of two", x.plan(3, 1), -2);
        due("each one of them", x.plan(7, 7), 0);
        due("3 nobody", x.plan(15, 7), -2);
        tell(x, "0", 1, 0);
        due("nobody may anything", x.plan(1, 7), -2);
    }

    static void p27Others() {
        sentence("promise 27", "NONE: others");
        dueOthersOfPlans(false);
    }

    private static void dueOthersOfPlans(boolean lateness) {
        TypingPool x = poolWith(60);
        x.hand(60, 0, 0, 0);
        x.hand(60, 0, 0, 0);
        x.hand(60, 0, 0, 0);
        plain(x, 2, 0, 9);
        for (int i = 0; i < 7; i++) {
            plain(x, 1, 1, 9);
        }
        plain(x, 1, 2, 9);
        x.step(1);
        int[][] others = {{0, 1}, {2, 0}, {0, 0}, {1, 1}, {3, 1}, {0x100, 1}, {0x102, 1}, {0x200, 1}, {LEAST, 1},
            {LEAST | 2, 1}, {-1, 1}, {MOST, 1}, {0x7E, 1}, {0xFE, 1}, {2, 15}, {2, 16}, {2, 17}, {2, LEAST},
            {2, LEAST | 1}, {2, -1}, {2, MOST}, {LEAST, LEAST}, {1, 2}, {0, 2}, {2, 0x12}, {1 << 30, 1}};
        for (int[] o : others) {
            int got = lateness ? x.lateness(o[0], o[1]) : x.plan(o[0], o[1]);
            due("(" + o[0] + ", " + o[1] + ")", got, -1);
        }
        due("five and three", lateness ? x.lateness(0x3E, 7) : x.plan(0x3E, 7), 0);
        due("which nobody may", lateness ? x.lateness(0x3E, 6) : x.plan(0x3E, 6), -2);
    }

    // ---- 28

    static void p28InAll() {
        sentence("promise 28", "LATENESS in all of the best PLAN (as plan())");
        TypingPool x = poolWith(60);
        plain(x, 100, 0, 100);
        plain(x, 1, 0, 1);
        plain(x, 1, 0, 2);
        due("none late alone", x.lateness(1, 1), 0);
        due("the long one last", x.lateness(7, 1), 2);
        TypingPool y = poolWith(60);
        plain(y, 10, 0, 10);
        plain(y, 100, 0, 109);
        plain(y, 1, 0, 0);
        due("11 and 2 of two, not 1, 1 and 2 of three", y.lateness(7, 1), 13);
        due("two late", y.plan(7, 1), 2);
        dueRow(y, 0, 2, 1, -1);
    }

    static void p28Likewise() {
        sentence("promise 28", "NONE, -2 likewise");
        dueOthersOfPlans(true);
    }

    // ---- 29

    static void p29From0To960() {
        sentence("promise 29", "TRIED for n MINUTES (0 .. 960)");
        TypingPool x = poolWith(60);
        plain(x, 1, 960, 960);
        x.piece(0, 1, 1, 0, 0, 0, 959, 0, 0);
        due("tried(-1, 0)", x.tried(-1, 0), 0);
        due("tried(-1, 959)", x.tried(-1, 959), 0);
        due("tried(-1, 960)", x.tried(-1, 960), 1);
        due("tried(-1, 961)", x.tried(-1, 961), -1);
        due("tried(-1, -1)", x.tried(-1, -1), -1);
        due("tried(-1, least)", x.tried(-1, LEAST), -1);
        due("tried(-1, most)", x.tried(-1, MOST), -1);
        x.step(1);
        due("960 from 1 on", x.tried(-1, 960), 2);
    }

    static void p29InPlaceOfAllOthers() {
        sentence("promise 29", "the RULE of a number (NONE: none) holding in place of all others of its KIND");
        TypingPool x = poolWith(60);
        x.piece(1, 0, 400, 0, 9, 0, 4800, 0, 0);
        x.piece(2, 0, 300, 0, 1, 0, 4800, 0, 0);
        x.piece(3, 0, 200, 1, 0, 0, 4800, 0, 0);
        tell(x, "c", 0, 9);
        tell(x, "9-c", 0, 1);
        tell(x, "1", 1, 5);
        due("as the rules are", x.tried(-1, 960), 0);
        dueRow(x, 0, 0, 400, 0, 0, 0, 0, 0);
        due("the rule of day 9, on the days 0 and 1", x.tried(0, 960), 0);
        dueRow(x, 0, 300, 0, 0, 0, 0, 0, 0);
        due("the leave of day 5", x.tried(2, 960), 0);
        dueRow(x, 0, 0, 400, 700, 0, 0, 0, 0);
    }

    static void p29HowManyLate() {
        sentence("promise 29", "how many PIECES are LATE then");
        TypingPool x = poolWith(60);
        plain(x, 10, 0, 9);
        plain(x, 10, 0, 20);
        x.piece(0, 1, 1, 0, 0, 5, 15, 0, 0);
        int[][] answers = {{9, 0}, {10, 1}, {15, 1}, {16, 2}, {20, 2}, {21, 2}};
        for (int[] a : answers) {
            due("tried(-1, " + a[0] + ")", x.tried(-1, a[0]), a[1]);
        }
        due("none are now", x.count(8), 0);
        x.step(12);
        due("one is late", x.tried(-1, 0), 1);
    }

    static void p29TheRow() {
        sentence("promise 29", "the ROW: MINUTES waited by DEPARTMENT 0 .. 7 (as claims(.., 0))");
        TypingPool x = poolWith(60);
        for (int department = 7; department >= 0; department--) {
            x.piece(department, 0, 1, 0, department, 0, 4800, 0, 0);
        }
        x.tried(-1, 0);
        dueRow(x, 0, 0, 0, 0, 0, 0, 0, 0);
        x.tried(-1, 4);
        dueRow(x, 0, 0, 0, 0, 3, 2, 1, 0);
        x.tried(-1, 960);
        dueRow(x, 7, 6, 5, 4, 3, 2, 1, 0);
        due("now nobody has waited", x.claims(0, 0), 0);
        x.step(960);
        for (int department = 0; department < 8; department++) {
            due("then as was tried", x.claims(department, 0), x.row(department));
        }
    }

    static void p29None() {
        sentence("promise 29", "NONE: others, a RULE not of KIND 0, 1, NOW and n above 4800");
        TypingPool x = poolWith(60);
        due("no rule told", x.tried(0, 5), -1);
        for (int kind = 0; kind < 4; kind++) {
            tell(x, "1", kind, 0);
        }
        int[] answers = {0, 0, -1, -1};
        for (int rule = 0; rule < 4; rule++) {
            due("a rule of kind " + rule, x.tried(rule, 5), answers[rule]);
        }
        int[] none = {-2, 4, 5, 20, LEAST, MOST};
        for (int rule : none) {
            due("tried(" + rule + ", 5)", x.tried(rule, 5), -1);
        }
        goTo(x, 3840);
        due("960 at 3840", x.tried(-1, 960), 0);
        x.step(1);
        due("960 at 3841", x.tried(-1, 960), -1);
        due("959 at 3841", x.tried(0, 959), 0);
        goTo(x, 4800);
        due("1 at 4800", x.tried(1, 1), -1);
        due("0 at 4800", x.tried(1, 0), 0);
    }

    // ---- 30

    static void p30From1To960() {
        sentence("promise 30", "TRIED for n MINUTES (1 .. 960)");
        TypingPool x = poolWith(60);
        plain(x, 1, 0, 0);
        x.piece(0, 0, 1, 0, 9, 0, 959, 0, 0);
        due("ill(0, 1)", x.ill(0, 1), 0);
        due("ill(0, 959)", x.ill(0, 959), 0);
        due("ill(0, 960)", x.ill(0, 960), 1);
        dueThrow("ill(0, 0)", () -> x.ill(0, 0));
        dueThrow("ill(0, 961)", () -> x.ill(0, 961));
    }

    static void p30AwayAllThatTime() {
        sentence("promise 30", "a HAND being AWAY all that time");
        TypingPool x = poolWith(60);
        x.hand(60, 1, 0, 0);
        plain(x, 10, 0, 10);
        x.step(1);
        due("it has it, and nobody else takes it", x.ill(0, 10), 1);
        due("to its due minute", x.ill(0, 9), 0);
        due("the other has nothing", x.ill(1, 10), 0);
        due("it is there", x.of(0, 5), 0);
        due("none told", x.count(5), 0);
        x.step(9);
        due("done", x.at(0, 3), 10);
        due("nothing to do", x.ill(0, 960), 0);
        TypingPool y = poolWith(60);
        y.away(0, 0, 50);
        plain(y, 1, 0, 9);
        due("away as it is", y.ill(0, 50), 0);
    }

    static void p30HowManyMore() {
        sentence("promise 30", "how many more are LATE (below 0: fewer)");
        TypingPool x = new TypingPool();
        x.hand(10, 1, 0, 0);
        x.hand(200, 1, 0, 0);
        x.piece(0, 0, 10, 0, 9, 0, 10, 0, 0);
        x.piece(0, 0, 10, 0, 8, 0, 10, 0, 0);
        due("the slow one ill", x.ill(0, 70), -1);
        due("the quick one ill", x.ill(1, 70), 1);
        TypingPool y = poolWith(60);
        for (int i = 0; i < 30; i++) {
            plain(y, 1, 0, 30);
        }
        due("all of them", y.ill(0, 31), 30);
        due("none yet", y.ill(0, 30), 0);
    }

    static void p30Others() {
        sentence("promise 30", "NoSuchElementException: others, NOW and n above 4800");
        TypingPool x = poolWith(60);
        for (int none : noneOf(1)) {
            dueThrow("ill(" + none + ", 5)", () -> x.ill(none, 5));
        }
        int[] minutes = {0, -1, 961, LEAST, MOST};
        for (int n : minutes) {
            dueThrow("ill(0, " + n + ")", () -> x.ill(0, n));
        }
        goTo(x, 3840);
        due("960 at 3840", x.ill(0, 960), 0);
        x.step(1);
        dueThrow("960 at 3841", () -> x.ill(0, 960));
        due("959 at 3841", x.ill(0, 959), 0);
        goTo(x, 4800);
        dueThrow("1 at 4800", () -> x.ill(0, 1));
        dueThrow("0 at 4800", () -> x.ill(0, 0));
    }

    // ---- 31

    static void p31NumberI() {
        sentence("promise 31", "Number i of the ROW");
        TypingPool x = new TypingPool();
        for (int h = 0; h < 3; h++) {
            x.hand(60, 1 << h, 0, 0);
        }
        int[] styles = {2, 2, 1, 1, 0};
        for (int style : styles) {
            x.piece(0, style, 1, 0, 0, 0, 9, 0, 0);
        }
        x.plan(31, 7);
        dueRow(x, 4, -1, 2, 3, -1, 0, 1, -1);
        x.plan(16, 1);
        dueRow(x, 4, -1);
    }

    static void p31NoneSuch() {
        sentence("promise 31", "NoSuchElementException: none such");
        TypingPool x = poolWith(60);
        dueThrow("row(0) of nothing", () -> x.row(0));
        plain(x, 1, 0, 9);
        x.tried(-1, 0);
        for (int none : noneOf(8)) {
            dueThrow("row(" + none + ") of 8", () -> x.row(none));
        }
        x.plan(1, 1);
        for (int none : noneOf(2)) {
            dueThrow("row(" + none + ") of 2", () -> x.row(none));
        }
        dueThrow("row(7), of the row told ahead", () -> x.row(7));
    }
}
