/** Each sentence of Terms 3 and of the promises 6, 7 and 8 that names a boundary case. */
public final class RuleTextsTest extends Checks {
    private static final String[] LETTERS = {"cwldspkn", "svph", "trax", "lcsof"};

    public static void main(String[] args) {
        runAll(RuleTextsTest.class);
    }

    /** What rule() answers for a text of order in a new pool. */
    private static int read(String text) {
        return tell(new TypingPool(), text, 0, 0);
    }

    private static void dueRead(String text, int want) {
        due("rule " + text, read(text), want);
    }

    /** What a text of order gives for a piece of claim 5, of 7 lines and secret 0. */
    private static void dueValue(String text, int want) {
        TypingPool x = poolWith(60);
        x.piece(0, 0, 7, 0, 5, 0, 0, 0, 0);
        due("rule " + text, tell(x, text, 0, 0), 0);
        due("value of " + text, x.order(0, 0), want);
    }

    // ---- Terms 3: which rule holds

    static void t3FromADayOn() {
        sentence("Terms 3", "each from a DAY (0 .. 9) on");
        for (int kind = 0; kind < 4; kind++) {
            due("day 0", tell(new TypingPool(), "1", kind, 0), 0);
            due("day 9", tell(new TypingPool(), "1", kind, 9), 0);
            due("day -1", tell(new TypingPool(), "1", kind, -1), -100);
            due("day 10", tell(new TypingPool(), "1", kind, 10), -100);
        }
    }

    static void t3AtMost20() {
        sentence("Terms 3", "(at most 20)");
        TypingPool x = new TypingPool();
        for (int i = 0; i < 20; i++) {
            due("rule " + i, tell(x, "1", i < 17 ? 0 : i - 16, i % 10), i);
        }
        for (int kind = 0; kind < 4; kind++) {
            due("one more of kind " + kind, tell(x, "1", kind, 0), -100);
        }
        due("rules", x.count(3), 20);
        TypingPool y = new TypingPool();
        for (int i = 0; i < 30; i++) {
            tell(y, "+", 0, 0);
        }
        due("those that could not stand do not count", tell(y, "1", 0, 0), 0);
    }

    static void t3GreatestDayNotAbove() {
        sentence("Terms 3", "the one of the greatest DAY not above holds");
        TypingPool x = poolWith(60);
        plain(x, 1, 4800, 4800);
        tell(x, "55", 0, 5);
        tell(x, "22", 0, 2);
        tell(x, "33", 0, 3);
        int[] values = {9, 9, 22, 33, 33, 55, 55, 55, 55, 55};
        for (int day = 0; day < 10; day++) {
            due("first minute of day " + day, x.order(0, 0), values[day]);
            x.step(479);
            due("last minute of day " + day, x.order(0, 0), values[day]);
            x.step(1);
        }
        due("at 4800", x.order(0, 0), 55);
        TypingPool y = poolWith(60);
        plain(y, 1, 4800, 4800);
        tell(y, "1", 0, 9);
        goTo(y, 4319);
        due("day 8", y.order(0, 0), 9);
        y.step(1);
        due("day 9", y.order(0, 0), 1);
    }

    static void t3OfEqualOnes() {
        sentence("Terms 3", "of equal ones the one told last");
        TypingPool x = poolWith(60);
        plain(x, 1, 4800, 4800);
        tell(x, "11", 0, 0);
        due("in place of the one at first", x.order(0, 0), 11);
        tell(x, "12", 0, 0);
        due("told last", x.order(0, 0), 12);
        tell(x, "33", 0, 1);
        tell(x, "13", 0, 0);
        due("told last of day 0", x.order(0, 0), 13);
        tell(x, "1", 1, 0);
        tell(x, "1", 3, 0);
        due("others are of other kinds", x.order(0, 0), 13);
        x.step(480);
        due("day 1 is greater, though told ahead", x.order(0, 0), 33);
        tell(x, "34", 0, 1);
        due("told last of day 1", x.order(0, 0), 34);
    }

    // ---- Terms 3: the expression

    static void t3AtMost60Signs() {
        sentence("Terms 3", "An EXPRESSION of at most 60 signs");
        dueRead("1" + "+1".repeat(29), 0);
        dueRead("-1" + "+1".repeat(29), 0);
        dueRead("--1" + "+1".repeat(29), -61);
        dueValue("--" + "1+".repeat(28) + "11", 39);
        dueValue("-".repeat(59) + "1", -1);
        dueValue("!".repeat(58) + "11", 1);
        dueValue("1" + "*-1".repeat(19) + "-9", -10);
        dueValue("1+(2*(3" + "+4".repeat(24) + "))+55", 254);
    }

    static void t3OrBindsLeast() {
        sentence("Terms 3", "operators, from those that bind least: | then &");
        dueValue("1|1&0", 1);
        dueValue("0&0|1", 1);
        dueValue("(1|1)&0", 0);
        dueValue("0&(0|1)", 0);
    }

    static void t3AndThenComparisons() {
        sentence("Terms 3", "then & then < > =");
        dueValue("0&1=0", 0);
        dueValue("2=2&1", 1);
        dueValue("0&5<9", 0);
        dueValue("2>1&3", 1);
        dueValue("1=1|0", 1);
        dueValue("2|0=2", 1);
        dueValue("3=3&4>3&1<2", 1);
    }

    static void t3ComparisonsThenSums() {
        sentence("Terms 3", "< > = .. then + -");
        dueValue("3=1+1", 0);
        dueValue("1+2=2", 0);
        dueValue("3-2<1", 0);
        dueValue("5>5-1", 1);
        dueValue("0<0-1", 0);
        dueValue("4-4|0", 0);
    }

    static void t3SumsThenTimes() {
        sentence("Terms 3", "then + -, then *");
        dueValue("1+2*3", 7);
        dueValue("2*3+1", 7);
        dueValue("2*3-1", 5);
        dueValue("9-2*3", 3);
        dueValue("(1+2)*3", 9);
        dueValue("2*(3-1)", 4);
        dueValue("1+2*3-4*5+6", -7);
    }

    static void t3ThenAheadOfAThing() {
        sentence("Terms 3", "then ahead of a thing ! and -");
        dueValue("!2*0", 0);
        dueValue("!0*5", 5);
        dueValue("2*!0", 2);
        dueValue("2*-3", -6);
        dueValue("-1+2", 1);
        dueValue("!1+1", 1);
        dueValue("!0=0", 0);
        dueValue("!1|1", 1);
        dueValue("-5<0", 1);
        dueValue("-(1+2)", -3);
        dueValue("!(0+0)", 1);
        dueValue("-c", -5);
        dueValue("!c", 0);
        dueRead("c!", -2);
        dueRead("1!2", -2);
        dueRead("(1)!", -4);
        dueRead("1+!", -4);
        dueRead("!", -2);
        dueRead("-", -2);
        dueRead("!)", -2);
        dueRead("-*1", -2);
    }

    static void t3AnyMany() {
        sentence("Terms 3", "(any many)");
        dueValue("--1", 1);
        dueValue("---1", -1);
        dueValue("!!7", 1);
        dueValue("!!!7", 0);
        dueValue("-!0", -1);
        dueValue("!-3", 0);
        dueValue("!-0", 1);
        dueValue("-!-!0", 0);
        dueValue("-!!-2", -1);
        dueValue("1--1", 2);
        dueValue("1---1", 0);
        dueValue("2*--3", 6);
        dueValue("1<-!-3", 0);
    }

    static void t3OneOrNought() {
        sentence("Terms 3", "< > = (two; 1 or 0");
        String[] texts = {"1<1", "1<2", "2<1", "1>1", "1>2", "2>1", "1=1", "1=2", "2=1", "-1<0", "-1>0", "-1=1",
            "-2<-1", "7<9999", "4096*4096*128<1", "4096*4096*128>1", "4096*4096*128-1>-2", "-2<4096*4096*128-1"};
        int[] values = {0, 1, 0, 0, 0, 1, 1, 0, 0, 1, 0, 0, 1, 1, 1, 0, 1, 1};
        for (int i = 0; i < texts.length; i++) {
            dueValue(texts[i], values[i]);
        }
    }

    static void t3NotOneBehindTheOther() {
        sentence("Terms 3", "not one behind the other)");
        String[] signs = {"<", ">", "="};
        for (String first : signs) {
            for (String second : signs) {
                dueRead("1" + first + "2" + second + "3", -4);
                dueRead("1" + first + "2+3*4" + second + "3", -8);
                dueRead("1" + first + "2&3" + second + "4", 0);
                dueRead("1" + first + "2|3" + second + "4", 0);
                dueRead("(1" + first + "2)" + second + "4", 0);
                dueRead("1" + first + "(2" + second + "4)", 0);
                dueRead("1" + first + "(2)" + second + "4", -6);
                dueRead("1" + first + second + "4", -3);
            }
        }
        dueRead("1<2&3<4<5", -8);
        dueRead("1<2|3<4<5", -8);
        dueRead("1|2<3<4", -6);
        dueRead("1<(2<3<4)", -7);
        dueRead("1<(2<3)<4", -8);
        dueRead("(1<2)<(3<4)", 0);
        dueRead("(1<2)<(3<4)<5", -12);
        dueRead("((1<2)<3)<4", 0);
        dueRead("(1)<2<3", -6);
        dueRead("((1<2)+3)<4<5", -12);
        dueRead("!1<2<3", -5);
        dueRead("1<2*(3&4<5)<6", -12);
        dueRead("(1&2)<3", 0);
        dueRead("(1|2)<3", 0);
        dueRead("((1&2)<3)<4", 0);
        dueRead("(1<2&3)<4", 0);
        dueRead("(1&(2|3))=4", 0);
        dueRead("1<2&(3<4)&5<6", 0);
        dueValue("(1<2)=(3<4)", 1);
        dueValue("3>(2>1)", 1);
        dueValue("(3>2)>1", 0);
    }

    static void t3NumberOf1To4Digits() {
        sentence("Terms 3", "a NUMBER of 1 to 4 digits");
        dueValue("0", 0);
        dueValue("9", 9);
        dueValue("10", 10);
        dueValue("999", 999);
        dueValue("1000", 1000);
        dueValue("9999", 9999);
        dueValue("0000", 0);
        dueValue("0007", 7);
        dueValue("1234+4321", 5555);
        dueRead("10000", -5);
        dueRead("00000", -5);
        dueRead("123456", -5);
        dueRead("1+99999", -7);
        dueRead("(12345)", -6);
        dueRead("-12345", -6);
        dueRead("1234(", -5);
        dueRead("1234c", -5);
        dueRead("(1)1", -4);
        dueRead("c1", -2);
        dueRead("1c", -2);
        dueRead("cc", -2);
        dueRead("1.5", -2);
    }

    static void t3SixInOneAnother() {
        sentence("Terms 3", "an EXPRESSION in ( ) (at most 6 in one another)");
        for (int depth = 1; depth <= 6; depth++) {
            dueValue("(".repeat(depth) + "c" + ")".repeat(depth), 5);
        }
        dueRead("(((((((c)))))))", -7);
        dueRead("(((((((", -7);
        dueRead("((((((", -7);
        dueRead("((((((c+(1))))))))", -9);
        dueRead("1+((((((-(1", -10);
        dueValue("((((((c))))))+((((((c))))))", 10);
        dueValue("((((((c)+(c)))*(2))))", 20);
        dueValue("((((((c)))+(((1))))))", 6);
        dueRead("((((((c)))+((((1)))))))", -15);
        dueRead("()", -2);
        dueRead("(c", -3);
        dueRead("((c)", -5);
        dueRead("c)", -2);
        dueRead("(c))", -4);
        dueRead(")", -1);
        dueRead("(c)(c)", -4);
        dueRead("c(c)", -2);
        dueRead("1(", -2);
        dueRead("(c+)", -4);
        dueRead("(-)", -3);
    }

    static void t3AsIntsFromTheLeft() {
        sentence("Terms 3", "As ints, + - * from the left");
        dueValue("10-3-2", 5);
        dueValue("10-3+2", 9);
        dueValue("10+3-2-1", 10);
        dueValue("2*3*4", 24);
        dueValue("9-8-7*2-1", -14);
        dueValue("9999*9999*9999", 9999 * 9999 * 9999);
        dueValue("4096*4096*128", Integer.MIN_VALUE);
        dueValue("4096*4096*128-1", Integer.MAX_VALUE);
        dueValue("(4096*4096*128-1)+1", Integer.MIN_VALUE);
        dueValue("-(4096*4096*128)", Integer.MIN_VALUE);
        dueValue("4096*4096*128*2", 0);
        dueValue("!(4096*4096*256)", 1);
    }

    static void t3TruthIsOneOrNought() {
        sentence("Terms 3", "| & ! give 1 or 0 (0 is false)");
        String[] texts = {"0|0", "5|0", "0|5", "2|1", "-1|0", "0|-1", "0&0", "5&0", "0&5", "5&7", "4&3", "-1&-2",
            "!0", "!1", "!5", "!-1", "!!5", "1|2|4", "1&2&4", "0|0|3", "3&2&0"};
        int[] values = {0, 1, 1, 1, 1, 1, 0, 0, 0, 1, 1, 1, 1, 0, 0, 0, 1, 1, 1, 1, 0};
        for (int i = 0; i < texts.length; i++) {
            dueValue(texts[i], values[i]);
        }
    }

    static void t3NoBlanks() {
        sentence("Terms 3", "No blanks");
        char[] blanks = {' ', '\t', '\n', '\r', 0, 160};
        for (char blank : blanks) {
            dueRead(blank + "c", -1);
            dueRead("c" + blank, -2);
            dueRead("c" + blank + "+1", -2);
            dueRead("c+" + blank + "1", -3);
            dueRead("1" + blank + "2", -2);
            dueRead("(" + blank + "1)", -2);
        }
    }

    static void t3LettersOfAKind() {
        sentence("Terms 3", "A LETTER of another KIND can not stand");
        for (int kind = 0; kind < 4; kind++) {
            for (char c = 'A'; c <= 'z'; c++) {
                boolean stands = LETTERS[kind].indexOf(c) >= 0;
                if (Character.isLetter(c)) {
                    due(c + " of kind " + kind, tell(new TypingPool(), "" + c, kind, 0), stands ? 0 : -1);
                    due("1+" + c + " of kind " + kind, tell(new TypingPool(), "1+" + c, kind, 0), stands ? 0 : -3);
                }
            }
        }
    }

    // ---- Terms 3: the kinds

    static void t3OrderAtFirst() {
        sentence("Terms 3", "KIND 0 ORDER (at first 9-c)");
        TypingPool x = poolWith(60);
        for (int claim = 0; claim <= 9; claim++) {
            x.piece(0, 0, 1, 0, claim, 0, 0, 0, 0);
            due("claim " + claim, x.order(0, claim), 9 - claim);
        }
    }

    static void t3LettersOfOrder() {
        sentence("Terms 3", "c CLAIM, .. l LINES, .. s SECRET, p DEPARTMENT");
        String[] letters = {"c", "l", "s", "p"};
        int[] least = {0, 1, 0, 0};
        int[] most = {9, 400, 3, 7};
        for (int i = 0; i < letters.length; i++) {
            TypingPool x = poolWith(60);
            x.piece(0, 0, 1, 0, 0, 0, 0, 0, 0);
            x.piece(7, 0, 400, 3, 9, 0, 4800, 0, 0);
            tell(x, letters[i], 0, 0);
            due(letters[i] + " of the least", x.order(0, 0), least[i]);
            due(letters[i] + " of the most", x.order(0, 1), most[i]);
        }
    }

    static void t3MinutesSinceItComes() {
        sentence("Terms 3", "w MINUTES since it COMES");
        TypingPool x = poolWith(60);
        x.piece(0, 1, 1, 0, 0, 5, 5, 0, 0);
        tell(x, "w", 0, 0);
        x.step(5);
        due("as it comes", x.order(0, 0), 0);
        x.step(1);
        due("a minute later", x.order(0, 0), 1);
        goTo(x, 4800);
        due("at the end", x.order(0, 0), 4795);
    }

    static void t3DueLessNow() {
        sentence("Terms 3", "d DUE less NOW");
        TypingPool x = poolWith(60);
        x.piece(0, 1, 1, 0, 0, 0, 2, 0, 0);
        tell(x, "d", 0, 0);
        for (int minute = 0; minute < 5; minute++) {
            due("at " + minute, x.order(0, 0), 2 - minute);
            x.step(1);
        }
    }

    static void t3WordsNotKnown() {
        sentence("Terms 3", "k how many of its WORDS the HAND does not know");
        int[][] answers = {{0, 0, 0}, {65535, 65535, 0}, {0, 65535, 16}, {65535, 0, 0}, {1, 65535, 15}, {6, 9, 2}};
        for (int[] a : answers) {
            TypingPool x = new TypingPool();
            x.hand(60, 1, a[0], 0);
            x.piece(0, 0, 1, 0, 0, 0, 0, a[1], 0);
            tell(x, "k", 0, 0);
            due(a[1] + " for one that knows " + a[0], x.order(0, 0), a[2]);
        }
    }

    static void t3ComeAndNotTaken() {
        sentence("Terms 3", "n how many PIECES of its DEPARTMENT have COME and are not taken");
        TypingPool x = poolWith(60);
        x.piece(1, 1, 2, 0, 0, 0, 9, 0, 0);
        x.piece(1, 0, 2, 0, 9, 0, 9, 0, 0);
        x.piece(1, 0, 2, 0, 0, 1, 9, 0, 0);
        x.piece(2, 0, 2, 0, 0, 0, 9, 0, 0);
        tell(x, "n", 0, 0);
        int[] ones = {2, 3, 3, 2, 2, 1};
        int[] twos = {1, 0, 0, 0, 0, 0};
        for (int minute = 0; minute < ones.length; minute++) {
            due("department 1 at " + minute, x.order(0, 0), ones[minute]);
            due("department 2 at " + minute, x.order(0, 3), twos[minute]);
            due("one not come or taken at " + minute, x.order(0, 2), ones[minute]);
            x.step(1);
        }
    }

    static void t3LeaveAtFirst() {
        sentence("Terms 3", "1 LEAVE (v>s|v=s)");
        TypingPool x = new TypingPool();
        for (int i = 0; i < 4; i++) {
            x.hand(60, 1, 0, i);
            x.piece(0, 0, 1, i, 0, 0, 0, 0, 0);
        }
        for (int v = 0; v < 4; v++) {
            for (int s = 0; s < 4; s++) {
                due("leave " + v + " for secret " + s, x.may(v, s), v >= s ? 1 : 0);
            }
        }
    }

    static void t3LettersOfLeave() {
        sentence("Terms 3", "s SECRET, v LEAVE of the HAND, p DEPARTMENT, h the HAND");
        String[] texts = {"s=3", "v=1", "p=7", "h=2"};
        for (String text : texts) {
            TypingPool x = new TypingPool();
            x.hand(60, 1, 0, 0);
            x.hand(60, 1, 0, 2);
            x.hand(60, 1, 0, 1);
            x.piece(7, 0, 1, 3, 0, 0, 0, 0, 0);
            x.piece(0, 0, 1, 0, 0, 0, 0, 0, 0);
            tell(x, text, 1, 0);
            boolean byHand = text.charAt(0) == 'v' || text.charAt(0) == 'h';
            for (int h = 0; h < 3; h++) {
                due(text + " for hand " + h, x.may(h, 0), !byHand || h == 2 ? 1 : 0);
                due(text + " for hand " + h + " and another", x.may(h, 1), byHand && h == 2 ? 1 : 0);
            }
        }
    }

    static void t3ByTheDayOfNow() {
        sentence("Terms 3", "By the DAY of NOW");
        TypingPool x = poolWith(60);
        plain(x, 1, 480, 4800);
        plain(x, 1, 479, 4800);
        tell(x, "0", 1, 1);
        x.step(479);
        due("may at 479", x.may(0, 0), 1);
        x.step(1);
        due("may at 480", x.may(0, 0), 0);
        due("what came at 479 is taken", x.at(1, 3), 480);
        x.step(1);
        due("what came at 480 not", x.at(0, 0), 1);
        TypingPool y = poolWith(60);
        y.piece(0, 0, 1, 0, 9, 0, 4800, 0, 0);
        y.piece(0, 0, 1, 0, 0, 0, 4800, 0, 0);
        tell(y, "c", 0, 1);
        y.away(0, 0, 480);
        y.step(481);
        due("order at 480", y.at(1, 3), 481);
    }

    static void t3ByTheDayInOneStep() {
        sentence("Terms 3", "By the DAY of NOW, in the midst of a step");
        for (int day = 1; day <= 9; day++) {
            for (int ahead = 1; ahead <= 479; ahead += 239) {
                TypingPool x = poolWith(60);
                x.piece(6, 0, 1, 3, 0, 0, 4800, 0, 0);
                tell(x, "1", 1, day);
                goTo(x, day * 480 - ahead);
                x.tried(-1, ahead + 1);
                due("tried: taken as the day begins", x.row(6), day * 480);
                x.step(ahead + 100);
                due("taken as the day begins", x.at(0, 2), day * 480);
            }
        }
    }

    /** A pool whose one piece, of word 1, is done at minute 2 by a hand that may know it. */
    private static TypingPool poolWithOneDone(int known) {
        TypingPool x = new TypingPool();
        x.hand(60, 1, known, 0);
        x.piece(0, 0, 1, 0, 0, 0, 4800, 1, 0);
        x.step(2);
        return x;
    }

    static void t3FaultAtFirst() {
        sentence("Terms 3", "2 FAULT ((1-t)*(1-a))");
        TypingPool x = poolWithOneDone(0);
        for (int i = 0; i < 8; i++) {
            x.correct(0, 0, i & 1, i >> 1 & 1, i >> 2 & 1);
            due("t r a " + (i & 1) + (i >> 1 & 1) + (i >> 2 & 1), x.fault(i), (i & 5) == 0 ? 1 : 0);
        }
    }

    static void t3ByTheDayFromWhichKnown() {
        sentence("Terms 3", "by the DAY from which the CORRECTION is KNOWN");
        TypingPool x = poolWithOneDone(0);
        tell(x, "2", 2, 5);
        tell(x, "0", 2, 9);
        int[] days = {0, 4, 5, 8, 9, 10, 99};
        int[] faults = {1, 1, 2, 2, 0, 0, 0};
        for (int i = 0; i < days.length; i++) {
            x.correct(0, days[i], 0, 0, 0);
            due("known from " + days[i], x.fault(i), faults[i]);
        }
        goTo(x, 4800);
        due("not by now", x.fault(0), 1);
    }

    static void t3KnewAllWords() {
        sentence("Terms 3", "x 1 if the HAND knew all WORDS of the PIECE when it took it");
        int[][] answers = {{0, 0, 1}, {1, 1, 1}, {65535, 65535, 1}, {65534, 65535, 0}, {0, 1, 0}, {2, 1, 0}, {3, 1, 1}};
        for (int[] a : answers) {
            TypingPool x = new TypingPool();
            x.hand(60, 1, a[0], 0);
            x.piece(0, 0, 1, 0, 0, 0, 4800, a[1], 0);
            x.step(12);
            due("done", x.at(0, 0), 3);
            x.correct(0, 0, 0, 0, 0);
            tell(x, "x", 2, 0);
            due("words " + a[1] + " for one that knew " + a[0], x.fault(0), a[2]);
            tell(x, "2-x", 2, 0);
            due("2-x for one that knew " + a[0], x.fault(0), 2 - a[2]);
        }
        TypingPool y = poolWithOneDone(0);
        y.piece(0, 0, 1, 0, 0, 2, 4800, 1, 0);
        y.step(2);
        y.correct(0, 0, 0, 0, 0);
        y.correct(1, 0, 0, 0, 0);
        tell(y, "x", 2, 0);
        due("it was learnt by this one", y.fault(0), 0);
        due("and known for the next", y.fault(1), 1);
    }

    static void t3WhatFaultGives() {
        sentence("Terms 3", "What it gives: 1 the HAND's, 2 the reader's, else the author's");
        String[] texts = {"0", "1", "2", "3", "-1", "-2", "4096*4096*128+1", "4096*4096*256+1", "9999"};
        int[] faults = {0, 1, 2, 0, 0, 0, 0, 1, 0};
        for (int i = 0; i < texts.length; i++) {
            TypingPool x = poolWithOneDone(0);
            x.correct(0, 0, 0, 0, 0);
            tell(x, texts[i], 2, 0);
            due("a fault that gives " + texts[i], x.fault(0), faults[i]);
            for (int kind = 0; kind < 3; kind++) {
                due("faults of kind " + kind, x.faults(0, kind), kind == faults[i] ? 1 : 0);
            }
        }
    }

    static void t3PayAtFirst() {
        sentence("Terms 3", "3 PAY (l)");
        TypingPool x = poolWith(200);
        plain(x, 1, 0, 0);
        plain(x, 400, 0, 0);
        x.step(130);
        due("1 line", x.pay(0), 1);
        due("400 lines", x.pay(1), 400);
    }

    static void t3LettersOfPay() {
        sentence("Terms 3", "l LINES, c COPIES, s SECRET");
        String[] letters = {"l", "c", "s"};
        int[] least = {1, 0, 0};
        int[] most = {400, 6, 3};
        for (int i = 0; i < letters.length; i++) {
            TypingPool x = new TypingPool();
            x.hand(200, 1, 0, 3);
            x.piece(0, 0, 1, 0, 0, 0, 0, 0, 0);
            x.piece(7, 0, 400, 3, 9, 0, 4800, 0, 6);
            tell(x, letters[i], 3, 0);
            x.step(200);
            due(letters[i] + " of the least", x.pay(0), least[i]);
            due(letters[i] + " of the most", x.pay(1), most[i]);
        }
    }

    static void t3PayByTheDayOfDone() {
        sentence("Terms 3", "by the DAY on which it was DONE (of its MINUTE DONE, by 480)");
        int[][] answers = {{477, 0}, {478, 0}, {479, 1}, {480, 1}, {958, 1}, {959, 2}, {4319, 9}, {4799, 9}};
        for (int[] a : answers) {
            TypingPool x = poolWith(60);
            plain(x, 1, a[0], 4800);
            for (int day = 0; day <= 9; day++) {
                tell(x, "" + day, 3, day);
            }
            goTo(x, 4800);
            due("done at", x.at(0, 3), a[0] + 1);
            due("taken at " + a[0], x.pay(0), a[1]);
        }
    }

    static void t3MinutesLateOfPay() {
        sentence("Terms 3", "o MINUTES LATE (0 at least)");
        int[][] answers = {{0, 3}, {2, 1}, {3, 0}, {4, 0}, {4800, 0}};
        for (int[] a : answers) {
            TypingPool x = poolWith(60);
            plain(x, 3, 0, a[0]);
            tell(x, "o", 3, 0);
            x.step(100);
            due("done at 3, due at " + a[0], x.pay(0), a[1]);
        }
    }

    static void t3FaultsOfPay() {
        sentence("Terms 3", "f CORRECTIONS of it that are the HAND's fault, KNOWN on AS");
        TypingPool x = poolWith(60);
        plain(x, 1, 0, 9);
        plain(x, 1, 0, 9);
        x.step(2);
        tell(x, "f", 3, 0);
        tell(x, "t+2*a", 2, 0);
        due("none", x.pay(0), 0);
        x.correct(0, 10, 1, 0, 0);
        x.correct(0, 20, 1, 0, 0);
        x.correct(0, 10, 0, 0, 0);
        x.correct(0, 10, 0, 0, 1);
        x.correct(1, 10, 1, 0, 0);
        due("two of four", x.pay(0), 2);
        due("the other piece's", x.pay(1), 1);
        int[] days = {0, 9, 10, 19, 20, 99};
        int[] faults = {0, 0, 1, 1, 2, 2};
        for (int i = 0; i < days.length; i++) {
            x.as(days[i]);
            due("as of " + days[i], x.pay(0), faults[i]);
        }
        x.undo(0, 30);
        x.as(29);
        due("not undone yet", x.pay(0), 2);
        x.as(30);
        due("undone", x.pay(0), 1);
    }

    // ---- promise 6

    static void p6HighestByteFirst() {
        sentence("promise 6", "Four signs come behind THE TEXT, of v the highest byte first: how many it has");
        TypingPool x = poolWith(60);
        plain(x, 1, 0, 0);
        due("sign", x.sign(0x392D3229), 4);
        due("sign", x.sign(0x372D3128), 8);
        due("9-2)7-1( is wrong at 3", x.rule(0, 0), -4);
        x.sign(0x392D322D);
        x.sign(0x31000000);
        x.end(5);
        due("9-2-1", x.rule(0, 0), 0);
        due("9-2-1", x.order(0, 0), 6);
        int[] signs = {0x80333333, 0x33803333, 0x33338033, 0x33333380, 0xFF333333, -1, Integer.MIN_VALUE};
        int[] answers = {-1, -2, -3, -4, -1, -1, -1};
        for (int i = 0; i < signs.length; i++) {
            due("sign(" + signs[i] + ")", x.sign(signs[i]), 4);
            due("its byte above 127", x.rule(0, 0), answers[i]);
        }
    }

    static void p6NotMoreThan100() {
        sentence("promise 6", "Refused: there would be more than 100");
        TypingPool x = new TypingPool();
        for (int i = 1; i <= 25; i++) {
            due("sign " + i, x.sign(0x2D2D2D2D), 4 * i);
        }
        due("104", x.sign(0), -1);
        due("as it was", x.count(11), 100);
        for (int n = 99; n >= 97; n--) {
            x.end(n);
            due("behind " + n, x.sign(0), -1);
            due("as it was", x.count(11), n);
        }
        x.end(96);
        due("behind 96", x.sign(0), 100);
        x.rule(0, 0);
        due("empty again", x.sign(0), 4);
    }

    // ---- promise 7

    static void p7FirstN() {
        sentence("promise 7", "THE TEXT has its first n signs alone: true");
        TypingPool x = poolWith(60);
        plain(x, 1, 0, 0);
        due("nothing of nothing", x.end(0), true);
        x.sign('1' << 24 | '2' << 16 | '3' << 8 | '4');
        due("all of it", x.end(4), true);
        due("4", x.count(11), 4);
        due("one less", x.end(3), true);
        due("3", x.count(11), 3);
        x.sign('5' << 24);
        due("7", x.count(11), 7);
        due("the first 4", x.end(4), true);
        x.rule(0, 0);
        due("the first three and one more", x.order(0, 0), 1235);
        x.sign(0);
        due("none of it", x.end(0), true);
        due("0", x.count(11), 0);
    }

    static void p7NotSoMany() {
        sentence("promise 7", "false if it has not so many, or n is below 0");
        TypingPool x = new TypingPool();
        due("1 of nothing", x.end(1), false);
        x.sign(0);
        int[] others = {5, 100, -1, Integer.MIN_VALUE, Integer.MAX_VALUE};
        for (int n : others) {
            due("end(" + n + ")", x.end(n), false);
            due("as it was", x.count(11), 4);
        }
        x.end(2);
        due("what was cut off is gone", x.end(3), false);
        due("as it was", x.count(11), 2);
    }

    // ---- promise 8

    static void p8EmptyThen() {
        sentence("promise 8", "THE TEXT, which is empty then");
        TypingPool x = new TypingPool();
        write(x, "c+1");
        x.rule(0, 0);
        due("told", x.count(11), 0);
        write(x, "c+");
        x.rule(0, 0);
        due("not told", x.count(11), 0);
        write(x, "-".repeat(100));
        x.rule(0, 0);
        due("too long", x.count(11), 0);
    }

    static void p8ReadAnew() {
        sentence("promise 8", "THE TEXT, which is empty then, is a RULE: whatever was read ahead");
        String[] wrong = {"((((((", "(1+(2", "1<2<", "(1<2", "1<", "1+2*", "1234", "-!-", "(((1<2)<3)<4", "1<2)", "c+-("};
        String[] right = {"((((((c))))))", "c<9", "9-c", "1234", "c", "!c"};
        int[] values = {5, 1, 4, 1234, 5, 0};
        for (String first : wrong) {
            for (int i = 0; i < right.length; i++) {
                TypingPool x = poolWith(60);
                x.piece(0, 0, 7, 0, 5, 0, 0, 0, 0);
                tell(x, first, 0, 0);
                due(right[i] + " behind " + first, tell(x, right[i], 0, 0) >= 0, true);
                due("value of " + right[i] + " behind " + first, x.order(0, 0), values[i]);
            }
        }
    }

    static void p8NumberOfAllKinds() {
        sentence("promise 8", "its number, from 0 on (of all KINDS)");
        TypingPool x = new TypingPool();
        int[] kinds = {3, 0, 2, 1, 1, 0};
        for (int i = 0; i < kinds.length; i++) {
            due("rule " + i, tell(x, "1", kinds[i], 9 - i), i);
            due("one that can't stand", tell(x, ")", kinds[i], 0), -1);
            due("rules", x.count(3), i + 1);
        }
    }

    static void p8TheSignAtP() {
        sentence("promise 8", "-1 - p: the sign at p can't stand there");
        dueRead("+1", -1);
        dueRead("*", -1);
        dueRead("|", -1);
        dueRead("&1", -1);
        dueRead("<1", -1);
        dueRead("=", -1);
        dueRead("~1", -1);
        dueRead("1~1", -2);
        dueRead("1++1", -3);
        dueRead("1*|1", -3);
        dueRead("1+2+3+4+5+6+7+8+9+v", -19);
        dueRead("(1+2))", -6);
        dueRead("1/2", -2);
        dueRead("1,2", -2);
    }

    static void p8ItsEnd() {
        sentence("promise 8", "(its end, if it ends too early");
        dueRead("", -1);
        dueRead("1+", -3);
        dueRead("1|", -3);
        dueRead("1&", -3);
        dueRead("1<", -3);
        dueRead("1*", -3);
        dueRead("-", -2);
        dueRead("!", -2);
        dueRead("(", -2);
        dueRead("(1", -3);
        dueRead("(1+2", -5);
        dueRead("1+(2*(3-4)", -11);
        dueRead("1+".repeat(29) + "-", -60);
        dueRead("1+".repeat(30), -61);
        dueRead("(".repeat(1) + "-".repeat(58) + "1", -61);
        dueRead("-".repeat(60), -61);
    }

    static void p8SixtyIfItHasMore() {
        sentence("promise 8", "60, if it has more and the first 60 could go on or end)");
        String[] ends = {"1" + "0+1".repeat(19) + "01", "-".repeat(59) + "c", "1+".repeat(29) + "11"};
        for (String text : ends) {
            for (int more = 1; more <= 40; more += 13) {
                due("60 that end, and " + more, read(text.substring(0, 60) + "+".repeat(more)), -61);
                due("60 that end, and " + more, read(text.substring(0, 60) + " ".repeat(more)), -61);
            }
        }
        String[] goOn = {"1+".repeat(30), "-".repeat(60), "(((" + "1+".repeat(28) + "1", "(" + "-".repeat(59)};
        for (String text : goOn) {
            due("60 that could go on, and one", read(text + "1"), -61);
            due("60 that could go on, and 40", read(text + ")".repeat(40)), -61);
        }
        due("wrong at 59", read("-".repeat(59) + ")" + "1"), -60);
        due("wrong at 59", read("-".repeat(58) + "1)" + "1"), -60);
        due("wrong at 0", read(")" + "1".repeat(99)), -1);
        due("wrong at 30", read("1+".repeat(15) + "v" + "1".repeat(69)), -31);
        due("five digits at 59", read("-".repeat(55) + "12345" + "1"), -60);
        due("the fifth digit at 60", read("-".repeat(56) + "1234" + "5"), -61);
    }

    static void p8Asked() {
        sentence("promise 8", "-100: no such KIND, DAY, there are 20 (asked first)");
        TypingPool x = new TypingPool();
        int[] kinds = {-1, 4, Integer.MIN_VALUE, Integer.MAX_VALUE};
        int[] days = {-1, 10, Integer.MIN_VALUE, Integer.MAX_VALUE};
        for (int i = 0; i < 4; i++) {
            due("kind " + kinds[i], tell(x, "1", kinds[i], 0), -100);
            due("day " + days[i], tell(x, "1", 0, days[i]), -100);
            due("kind " + kinds[i] + ", a wrong text", tell(x, ")", kinds[i], 0), -100);
            due("day " + days[i] + ", a wrong text", tell(x, ")", 0, days[i]), -100);
            due("both", tell(x, "", kinds[i], days[i]), -100);
        }
        due("rules", x.count(3), 0);
        for (int i = 0; i < 20; i++) {
            due("rule " + i, tell(x, "1", i % 4, 9), i);
        }
        due("there are 20", tell(x, "1", 0, 0), -100);
        due("there are 20, a wrong text", tell(x, ")", 0, 0), -100);
        due("there are 20, no text", x.rule(0, 0), -100);
        due("rules", x.count(3), 20);
    }
}
