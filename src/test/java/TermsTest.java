/** Each sentence of the Terms 1, 2, 4 and 5 that names a boundary case. RuleTextsTest has Terms 3. */
public final class TermsTest extends Checks {
    public static void main(String[] args) {
        runAll(TermsTest.class);
    }

    // ---- what it is

    static void all512CallsAnswer() {
        sentence("What it is", "An object is used for at most 512 calls after it has been made");
        TypingPool x = new TypingPool();
        int calls = 0;
        for (int i = 0; i < 8; i++, calls++) {
            x.hand(200, 1, 0, 0);
        }
        for (int i = 0; i < 30; i++, calls += 2) {
            plain(x, 1, 0, 1);
            x.away(7, 4000 + i, 4800);
        }
        for (int i = 0; i < 20; i++, calls += 3) {
            x.sign('1' << 24);
            x.end(1);
            x.rule(i % 4, i % 10);
        }
        x.step(4);
        for (int i = 0; i < 40; i++, calls++) {
            x.correct(i % 30, i, 1, 1, 1);
        }
        for (calls++; calls < MOST_CALLS - 1; calls++) {
            due("step(1)", x.step(1), calls - 164);
        }
        due("the 512th call", x.count(7), 30);
    }

    // ---- 1

    private static int pieceAt(int comes, int due) {
        return plain(new TypingPool(), 1, comes, due);
    }

    static void t1Minutes() {
        sentence("Terms 1", "TIME: MINUTES 0 .. 4800");
        due("a piece from 0 to 0", pieceAt(0, 0), 0);
        due("a piece from 0 to 4800", pieceAt(0, 4800), 0);
        due("a piece from 4800 to 4800", pieceAt(4800, 4800), 0);
        due("a piece due at 4801", pieceAt(0, 4801), -1);
        due("a piece from 4801 on", pieceAt(4801, 4801), -1);
        due("a piece from -1 on", pieceAt(-1, 0), -1);
        due("a piece from -1 to -1", pieceAt(-1, -1), -1);
        TypingPool x = poolWith(60);
        goTo(x, 4800);
        due("now", x.count(0), 4800);
        due("a piece that comes at the last minute", plain(x, 1, 4800, 4800), 0);
        due("it waits", x.at(0, 0), 1);
        due("a minute more", x.step(1), -1);
        due("nobody takes it", x.of(0, 0), -1);
    }

    static void t1DaysOf480() {
        sentence("Terms 1", "a DAY (0 .. 9) has 480");
        for (int day = 1; day <= 9; day++) {
            TypingPool x = poolWith(60);
            plain(x, 1, 4800, 4800);
            tell(x, "77", 0, day);
            goTo(x, day * 480 - 1);
            due("the last minute ahead of day " + day, x.order(0, 0), 9);
            x.step(1);
            due("the first minute of day " + day, x.order(0, 0), 77);
        }
    }

    static void t1DayIsFrom0To9() {
        sentence("Terms 1", "a DAY (0 .. 9)");
        due("day 0", tell(new TypingPool(), "1", 0, 0), 0);
        due("day 9", tell(new TypingPool(), "1", 0, 9), 0);
        due("day -1", tell(new TypingPool(), "1", 0, -1), -100);
        due("day 10", tell(new TypingPool(), "1", 0, 10), -100);
    }

    static void t1PostsAtMost4() {
        sentence("Terms 1", "POSTS (at most 4)");
        TypingPool x = new TypingPool();
        for (int i = 1; i <= 4; i++) {
            due("post " + i, x.post(i), i);
        }
        due("a fifth", x.post(5), -1);
        due("posts", x.count(12), 4);
    }

    static void t1PostsOfEachDay() {
        sentence("Terms 1", "minutes of each DAY (0 .. 479) at which letters go");
        int[] others = {-1, 480, 481, Integer.MIN_VALUE, Integer.MAX_VALUE};
        for (int minute : others) {
            due("post(" + minute + ")", new TypingPool().post(minute), -1);
        }
        for (int minute = 0; minute <= 479; minute += 479) {
            for (int day = 0; day <= 9; day += 9) {
                TypingPool x = poolWith(60);
                plain(x, 1, day * 480 + 100, 4800);
                due("post(" + minute + ")", x.post(minute), 1);
                goTo(x, day * 480 + 200);
                int goes = (minute == 0 ? day + 1 : day) * 480 + minute;
                due("goes on day " + day, x.goes(0), goes);
            }
        }
    }

    static void t1HandsAtMost8() {
        sentence("Terms 1", "HANDS 0 .. (at most 8)");
        TypingPool x = new TypingPool();
        for (int i = 0; i < 8; i++) {
            due("hand " + i, x.hand(60, 1, 0, 0), i);
        }
        due("a ninth", x.hand(60, 1, 0, 0), -1);
        due("hands", x.count(1), 8);
    }

    /** One number of a hand goes from a least to a most, the others being right. */
    private static void dueHandFrom(int place, int least, int most) {
        int[] values = {least, most, least - 1, most + 1, Integer.MIN_VALUE, Integer.MAX_VALUE};
        for (int i = 0; i < values.length; i++) {
            int[] h = {60, 1, 0, 0};
            h[place] = values[i];
            TypingPool x = new TypingPool();
            due("hand with number " + place + " " + values[i], x.hand(h[0], h[1], h[2], h[3]), i < 2 ? 0 : -1);
            due("hands", x.count(1), i < 2 ? 1 : 0);
        }
    }

    static void t1Speed() {
        sentence("Terms 1", "SPEED 10 .. 200");
        dueHandFrom(0, 10, 200);
        int[][] speeds = {{10, 50}, {200, 240}};
        for (int[] s : speeds) {
            TypingPool x = poolWith(s[0]);
            plain(x, 4, 0, 4800);
            x.step(1);
            due("a minute's work at speed " + s[0], x.at(0, 4), 240 - s[0]);
            due("rate", x.of(0, 6), s[0]);
        }
    }

    static void t1StylesOfAHand() {
        sentence("Terms 1", "STYLES .. that it knows (as bits: 8 STYLES");
        dueHandFrom(1, 0, 255);
        for (int style = 0; style < 8; style++) {
            TypingPool x = new TypingPool();
            x.hand(60, 1 << style, 0, 0);
            x.hand(60, 255 & ~(1 << style), 0, 0);
            x.piece(0, style, 1, 0, 0, 0, 0, 0, 0);
            due("only style " + style, x.may(0, 0), 1);
            due("all but style " + style, x.may(1, 0), 0);
        }
    }

    static void t1WordsOfAHand() {
        sentence("Terms 1", "WORDS that it knows (as bits: .. 16 WORDS)");
        dueHandFrom(2, 0, 65535);
        for (int word = 0; word < 16; word++) {
            TypingPool x = new TypingPool();
            x.hand(60, 1, 1 << word, 0);
            due("words", x.of(0, 1), 1 << word);
            x.piece(0, 0, 9, 0, 0, 0, 0, 65535, 0);
            tell(x, "k", 0, 0);
            due("words of all that it does not know", x.order(0, 0), 15);
        }
    }

    static void t1LeaveOfAHand() {
        sentence("Terms 1", "LEAVE 0 .. 3");
        dueHandFrom(3, 0, 3);
    }

    static void t1AwayAtMost30() {
        sentence("Terms 1", "AWAY (at most 30)");
        TypingPool x = poolWith(60);
        x.hand(60, 1, 0, 0);
        for (int i = 1; i <= 30; i++) {
            due("away " + i, x.away(i % 2, 4799 - i, 4800 - i), i);
        }
        due("one more", x.away(0, 0, 1), -1);
        due("told", x.count(5), 30);
        due("it is there", x.of(0, 5), 0);
        x.step(960);
        goTo(x, 4769);
        due("the one told last", x.of(0, 5), 1);
        x.step(1);
        due("the one ahead of that", x.of(0, 5) * 10 + x.of(1, 5), 1);
    }

    static void t1AwayToThatOneNot() {
        sentence("Terms 1", "from a MINUTE on to another one (that one not)");
        TypingPool x = poolWith(60);
        plain(x, 10, 0, 100);
        x.away(0, 2, 4);
        int[] away = {0, 0, 1, 1, 0, 0};
        int[] left = {600, 540, 480, 480, 480, 420};
        for (int minute = 0; minute < away.length; minute++) {
            due("away at " + minute, x.of(0, 5), away[minute]);
            due("left at " + minute, x.at(0, 4), left[minute]);
            x.step(1);
        }
        TypingPool y = poolWith(60);
        y.away(0, 4799, 4800);
        plain(y, 1, 4798, 4800);
        plain(y, 1, 4799, 4800);
        goTo(y, 4799);
        due("away at the last minute", y.of(0, 5), 1);
        y.step(1);
        due("at its end not", y.of(0, 5), 0);
        due("but nothing was done", y.at(1, 0), 1);
    }

    static void t1AwayTwiceAtOnce() {
        sentence("Terms 1", "a HAND does nothing from a MINUTE on to another one");
        TypingPool x = poolWith(60);
        plain(x, 10, 0, 100);
        x.away(0, 2, 8);
        x.away(0, 3, 5);
        x.away(0, 8, 9);
        x.step(5);
        due("two at once: the longer one", x.of(0, 5), 1);
        x.step(3);
        due("one behind the other", x.of(0, 5), 1);
        due("left", x.at(0, 4), 480);
        due("minutes that it worked", x.of(0, 2), 2);
        due("what it has", x.of(0, 0), 0);
        x.step(1);
        due("back", x.of(0, 5), 0);
        x.step(8);
        due("done", x.at(0, 3), 17);
    }

    static void t1PiecesAtMost30() {
        sentence("Terms 1", "PIECES 0 .. (at most 30)");
        TypingPool x = poolWith(60);
        for (int i = 0; i < 30; i++) {
            due("piece " + i, plain(x, 1, 0, 0), i);
        }
        due("one more", plain(x, 1, 0, 0), -1);
        due("pieces", x.count(2), 30);
        x.step(30);
        due("the last one", x.at(29, 3), 30);
        due("all done", x.count(7), 30);
        due("none left for another", plain(x, 1, 30, 30), -1);
    }

    /** One number of a piece goes from a least to a most, the others being right. */
    private static void duePieceFrom(int place, int least, int most) {
        int[] values = {least, most, least - 1, most + 1, Integer.MIN_VALUE, Integer.MAX_VALUE};
        for (int i = 0; i < values.length; i++) {
            int[] p = {0, 0, 1, 0, 0, 0, 4800, 0, 0};
            p[place] = values[i];
            TypingPool x = new TypingPool();
            due("piece with number " + place + " " + values[i], told(x, p), i < 2 ? 0 : -1);
            due("pieces", x.count(2), i < 2 ? 1 : 0);
        }
    }

    static void t1Department() {
        sentence("Terms 1", "DEPARTMENT 0 .. 7");
        duePieceFrom(0, 0, 7);
    }

    static void t1Style() {
        sentence("Terms 1", "STYLE 0 .. 7");
        duePieceFrom(1, 0, 7);
    }

    static void t1Lines() {
        sentence("Terms 1", "LINES 1 .. 400");
        duePieceFrom(2, 1, 400);
    }

    static void t1Secret() {
        sentence("Terms 1", "SECRET 0 .. 3");
        duePieceFrom(3, 0, 3);
    }

    static void t1Claim() {
        sentence("Terms 1", "CLAIM 0 .. 9");
        duePieceFrom(4, 0, 9);
    }

    static void t1Comes() {
        sentence("Terms 1", "the MINUTE at which it COMES");
        duePieceFrom(5, 0, 4800);
    }

    static void t1Due() {
        sentence("Terms 1", "the one at which it is DUE (not ahead of that)");
        duePieceFrom(6, 0, 4800);
        due("due when it comes", pieceAt(70, 70), 0);
        due("due a minute behind", pieceAt(70, 71), 0);
        due("due a minute ahead", pieceAt(70, 69), -1);
        due("due at 0", pieceAt(1, 0), -1);
    }

    static void t1Words() {
        sentence("Terms 1", "WORDS (bits)");
        duePieceFrom(7, 0, 65535);
    }

    static void t1Copies() {
        sentence("Terms 1", "COPIES 0 .. 6");
        duePieceFrom(8, 0, 6);
    }

    static void t1Work() {
        sentence("Terms 1", "WORK: 60 times LINES, and 2 times LINES for each of its COPIES");
        int[][] answers = {{1, 0, 60}, {1, 1, 62}, {1, 6, 72}, {400, 0, 24000}, {400, 6, 28800}, {7, 3, 462}};
        for (int[] a : answers) {
            TypingPool x = new TypingPool();
            x.piece(0, 0, a[0], 0, 0, 0, 0, 0, a[1]);
            due("work of " + a[0] + " lines, " + a[1] + " copies", x.at(0, 4), a[2]);
        }
    }

    private static int rateOf(int speed, int known, int words) {
        TypingPool x = new TypingPool();
        x.hand(speed, 1, known, 0);
        x.piece(0, 0, 400, 0, 0, 0, 0, words, 0);
        x.step(1);
        due("a minute's work", 24000 - x.at(0, 4), x.of(0, 6));
        return x.of(0, 6);
    }

    static void t1RateLessFiveForEach() {
        sentence("Terms 1", "SPEED, less 5 for each of its WORDS that it does not know");
        due("no words", rateOf(100, 0, 0), 100);
        due("knows all", rateOf(100, 65535, 65535), 100);
        due("one not", rateOf(100, 65534, 65535), 95);
        due("the highest not", rateOf(100, 32767, 32768), 95);
        due("knows others", rateOf(100, 6, 1), 95);
        due("none of 16", rateOf(200, 0, 65535), 120);
        due("two of three", rateOf(60, 4, 7), 50);
    }

    static void t1RateFiveAtLeast() {
        sentence("Terms 1", "5 at least");
        due("10 less 5", rateOf(10, 0, 1), 5);
        due("10 less 10", rateOf(10, 0, 3), 5);
        due("10 less 80", rateOf(10, 0, 65535), 5);
        due("80 less 80", rateOf(80, 0, 65535), 5);
        due("84 less 80", rateOf(84, 0, 65535), 5);
        due("85 less 80", rateOf(85, 0, 65535), 5);
        due("86 less 80", rateOf(86, 0, 65535), 6);
    }

    static void t1MayByLeave() {
        sentence("Terms 1", "a HAND may do a PIECE, if it knows its STYLE and RULE LEAVE gives not 0");
        String[] texts = {"0", "1", "0-1", "2", "4096*4096*128", "4096*4096*256"};
        int[] answers = {0, 1, 1, 1, 1, 0};
        for (int i = 0; i < texts.length; i++) {
            TypingPool x = poolWith(60);
            plain(x, 1, 0, 0);
            x.piece(0, 1, 1, 0, 0, 0, 0, 0, 0);
            tell(x, texts[i], 1, 0);
            due("leave gives " + texts[i], x.may(0, 0), answers[i]);
            due("but not the style", x.may(0, 1), 0);
        }
    }

    // ---- 2

    static void t2HandByHand() {
        sentence("Terms 2", "HAND by HAND, by number");
        TypingPool x = poolWith(10);
        x.hand(200, 1, 0, 3);
        plain(x, 9, 0, 100);
        x.step(1);
        due("the first takes it, be it slow", x.at(0, 1), 0);
        due("the next one has none", x.of(1, 0), -1);
        TypingPool y = new TypingPool();
        for (int i = 0; i < 8; i++) {
            y.hand(60, 1, 0, 0);
        }
        for (int i = 0; i < 9; i++) {
            plain(y, 9, 0, 100);
        }
        y.step(1);
        for (int i = 0; i < 8; i++) {
            due("hand " + i + " of eight", y.of(i, 0), i);
        }
        due("the ninth waits", y.at(8, 0), 1);
    }

    static void t2NotAway() {
        sentence("Terms 2", "if it is not AWAY");
        TypingPool x = poolWith(60);
        x.away(0, 0, 1);
        plain(x, 9, 0, 100);
        x.step(1);
        due("away at 0: not taken", x.at(0, 2), -1);
        x.step(1);
        due("back at 1: taken then", x.at(0, 2), 1);
        TypingPool y = poolWith(60);
        y.hand(60, 1, 0, 0);
        y.away(0, 5, 6);
        plain(y, 9, 5, 100);
        y.step(6);
        due("the other takes it", y.at(0, 1), 1);
    }

    static void t2HasNoPiece() {
        sentence("Terms 2", "and has no PIECE, it takes");
        TypingPool x = poolWith(60);
        plain(x, 3, 0, 100);
        x.piece(0, 0, 1, 0, 9, 1, 100, 0, 0);
        x.step(3);
        due("it keeps what it has", x.at(1, 2), -1);
        due("till that is done", x.at(0, 3), 3);
        x.step(1);
        due("and takes the next then", x.at(1, 2), 3);
        TypingPool y = poolWith(60);
        y.away(0, 1, 4);
        plain(y, 3, 0, 100);
        y.piece(0, 0, 1, 0, 9, 1, 100, 0, 0);
        y.step(3);
        due("away it keeps it too", y.of(0, 0), 0);
        y.step(2);
        due("and goes on with it", y.of(0, 0), 0);
    }

    static void t2HaveCome() {
        sentence("Terms 2", "of the PIECES that have COME (at NOW or ahead)");
        TypingPool x = poolWith(60);
        plain(x, 2, 5, 100);
        x.step(5);
        due("at 5 it has come", x.at(0, 0), 1);
        due("and is not taken", x.at(0, 2), -1);
        x.step(1);
        due("in minute 5 it is", x.at(0, 2), 5);
        TypingPool y = poolWith(60);
        plain(y, 1, 0, 100);
        y.piece(0, 0, 1, 0, 9, 1, 100, 0, 0);
        y.step(1);
        due("one that comes at 1 is not taken in minute 0", y.at(0, 3), 1);
        due("be it in haste", y.at(1, 0), 1);
    }

    static void t2NobodyHasTaken() {
        sentence("Terms 2", "that nobody has taken");
        TypingPool x = poolWith(60);
        x.hand(60, 1, 0, 0);
        x.away(0, 1, 50);
        x.piece(0, 0, 9, 0, 9, 0, 100, 0, 0);
        x.step(1);
        due("hand 0 has it", x.at(0, 1), 0);
        x.step(20);
        due("though it is away", x.at(0, 1), 0);
        due("the other has none", x.of(1, 0), -1);
        due("nothing was done", x.at(0, 4), 480);
        x.step(60);
        due("done is not taken again", x.at(0, 1) * 100 + x.at(0, 3), 58);
    }

    static void t2MayDo() {
        sentence("Terms 2", "and that it MAY do");
        TypingPool x = poolWith(60);
        x.hand(60, 3, 0, 1);
        x.piece(0, 1, 9, 0, 9, 0, 100, 0, 0);
        x.piece(0, 0, 9, 1, 8, 0, 100, 0, 0);
        x.piece(0, 0, 9, 0, 0, 0, 100, 0, 0);
        x.step(1);
        due("neither another style nor a secret", x.of(0, 0), 2);
        due("the other may", x.of(1, 0), 0);
        tell(x, "1", 1, 0);
        x.step(9);
        due("a new rule from the next taking on", x.of(0, 0), 1);
    }

    static void t2TheLeast() {
        sentence("Terms 2", "the one for which RULE ORDER gives the least");
        String[] texts = {"c", "0-c", "c-5", "4096*4096*128*c+1", "4096*4096*128*c-1"};
        // c 0, 1, 3: times 2 to the 31st it is nothing for 0, the least int for 1 and 3.
        int[] first = {0, 2, 0, 1, 0};
        for (int i = 0; i < texts.length; i++) {
            TypingPool x = poolWith(60);
            int[] claims = {0, 1, 3};
            for (int claim : claims) {
                x.piece(0, 0, 9, 0, claim, 0, 100, 0, 0);
            }
            tell(x, texts[i], 0, 0);
            x.step(1);
            due("the first by " + texts[i], x.of(0, 0), first[i]);
        }
    }

    static void t2OfEqualOnes() {
        sentence("Terms 2", "of equal ones the least number");
        TypingPool x = poolWith(60);
        x.hand(60, 1, 0, 0);
        x.piece(0, 0, 9, 0, 4, 0, 100, 0, 0);
        x.piece(0, 0, 9, 0, 5, 0, 100, 0, 0);
        x.piece(0, 0, 9, 0, 5, 0, 100, 0, 0);
        x.piece(0, 0, 9, 0, 5, 0, 100, 0, 0);
        x.step(1);
        due("hand 0", x.of(0, 0), 1);
        due("hand 1", x.of(1, 0), 2);
    }

    static void t2RateAsLongAsItHasIt() {
        sentence("Terms 2", "Its RATE is what it is then, as long as it has it");
        TypingPool x = poolWith(60);
        x.hand(60, 1, 1, 0);
        x.piece(0, 0, 2, 0, 9, 0, 100, 1, 0);
        x.piece(0, 0, 2, 0, 9, 0, 100, 1, 0);
        int[] rates = {-1, 55, 55, -1};
        int[] others = {-1, 60, -1, -1};
        for (int minute = 0; minute < 4; minute++) {
            due("rate at " + minute, x.of(0, 6), rates[minute]);
            due("the other's rate at " + minute, x.of(1, 6), others[minute]);
            x.step(1);
        }
    }

    static void t2AllItsWork() {
        sentence("Terms 2", "If it has done all its WORK, it is DONE at NOW and 1");
        int[][] answers = {{60, 1}, {61, 1}, {200, 1}, {59, 2}, {31, 2}, {30, 2}, {29, 3}, {10, 6}};
        for (int[] a : answers) {
            TypingPool x = poolWith(a[0]);
            plain(x, 1, 7, 4800);
            x.step(50);
            due("60 of work at " + a[0], x.at(0, 3), 7 + a[1]);
            due("by that hand", x.at(0, 1), 0);
            due("minutes", x.of(0, 2), a[1]);
            due("nothing is left", x.at(0, 4), 0);
        }
    }

    static void t2KnowsItsWordsThen() {
        sentence("Terms 2", "by that HAND, which knows its WORDS then (from the next MINUTE on)");
        TypingPool x = poolWith(60);
        x.hand(60, 1, 0, 0);
        x.piece(0, 0, 1, 0, 9, 0, 100, 32769, 0);
        x.piece(0, 0, 1, 0, 0, 1, 100, 32769, 0);
        x.piece(0, 0, 1, 0, 0, 1, 100, 32769, 0);
        x.step(1);
        due("not done, not learnt", x.of(0, 1), 0);
        x.step(1);
        due("learnt", x.of(0, 1), 32769);
        due("the other not", x.of(1, 1), 0);
        due("hand 1's rate, which took piece 1 at 1", x.of(1, 6), 50);
        x.step(1);
        due("the next one's rate", x.of(0, 1) * 100 + x.at(2, 3), 3276903);
        TypingPool y = poolWith(60);
        y.piece(0, 0, 2, 0, 9, 0, 100, 1, 0);
        y.piece(0, 0, 2, 0, 5, 0, 100, 3, 0);
        y.step(4);
        due("taken in the minute in which the last one was done", y.at(1, 2), 3);
        due("with one word learnt", y.of(0, 6), 55);
    }

    static void t2OneShortOfAllItsWork() {
        sentence("Terms 2", "If it has done all its WORK");
        TypingPool x = poolWith(59);
        plain(x, 1, 0, 100);
        plain(x, 1, 0, 100);
        int[] left = {60, 1, 0};
        int[] states = {1, 2, 3};
        for (int minute = 0; minute < left.length; minute++) {
            due("left at " + minute, x.at(0, 4), left[minute]);
            due("state at " + minute, x.at(0, 0), states[minute]);
            x.step(1);
        }
        due("the next one is taken when that is done", x.at(1, 2), 2);
    }

    static void t2KeepsWhatItKnew() {
        sentence("Terms 2", "which knows its WORDS then");
        TypingPool x = new TypingPool();
        x.hand(60, 1, 0b0011, 0);
        x.piece(0, 0, 1, 0, 9, 0, 100, 0b0110, 0);
        x.piece(0, 0, 1, 0, 8, 0, 100, 0b1000, 0);
        x.piece(0, 0, 1, 0, 7, 0, 100, 0, 0);
        x.step(2);
        due("what it knew and what it learnt", x.of(0, 1), 0b0111);
        x.step(2);
        due("and one more", x.of(0, 1), 0b1111);
        x.step(1);
        due("nothing more to learn", x.of(0, 1), 0b1111);
    }

    static void t2LateIfDone() {
        sentence("Terms 2", "LATE: DONE behind DUE");
        int[][] answers = {{9, 1, 1}, {10, 0, 0}, {11, 0, 0}, {0, 1, 10}};
        for (int[] a : answers) {
            TypingPool x = poolWith(60);
            plain(x, 10, 0, a[0]);
            x.step(40);
            due("done at 10, due at " + a[0], x.at(0, 5), a[1]);
            due("minutes late", x.at(0, 6), a[2]);
            due("late ones", x.count(8), a[1]);
        }
    }

    static void t2LateIfNotDone() {
        sentence("Terms 2", "if it is not DONE: NOW is behind DUE");
        TypingPool x = new TypingPool();
        plain(x, 10, 3, 5);
        plain(x, 10, 5, 5);
        int[] late = {0, 0, 0, 0, 0, 0, 1, 1};
        for (int minute = 0; minute < late.length; minute++) {
            due("late at " + minute, x.at(0, 5), late[minute]);
            due("late ones at " + minute, x.count(8), 2 * late[minute]);
            x.step(1);
        }
        TypingPool y = poolWith(60);
        plain(y, 9, 0, 5);
        y.step(5);
        due("taken, at its due minute", y.at(0, 5), 0);
        y.step(1);
        due("taken, a minute behind", y.at(0, 5), 1);
    }

    // ---- 4

    /** A pool with one piece of one line done at minute 1. */
    private static TypingPool poolWithOneDone() {
        TypingPool x = poolWith(60);
        plain(x, 1, 0, 4800);
        x.step(1);
        return x;
    }

    static void t4AtMost40() {
        sentence("Terms 4", "CORRECTIONS (at most 40)");
        TypingPool x = poolWithOneDone();
        for (int i = 0; i < 40; i++) {
            due("correction " + i, x.correct(0, 0, 0, 0, 0), i);
        }
        due("one more", x.correct(0, 0, 0, 0, 0), -1);
        due("corrections", x.count(4), 40);
        due("the last one", x.fault(39), 1);
        due("all", x.faults(0, 1), 40);
        x.undo(39, 0);
        due("one undone is one all the same", x.correct(0, 0, 0, 0, 0), -1);
    }

    static void t4OfAPieceThatIsDone() {
        sentence("Terms 4", "of a PIECE that is DONE");
        TypingPool x = poolWith(60);
        plain(x, 2, 1, 4800);
        due("not come", x.correct(0, 0, 0, 0, 0), -1);
        x.step(1);
        due("waits", x.correct(0, 0, 0, 0, 0), -1);
        x.step(1);
        due("taken", x.correct(0, 0, 0, 0, 0), -1);
        x.step(1);
        due("done", x.correct(0, 0, 0, 0, 0), 0);
    }

    static void t4KnownFromADay() {
        sentence("Terms 4", "KNOWN from a DAY (0 .. 99) on");
        TypingPool x = poolWithOneDone();
        int[] others = {-1, 100, Integer.MIN_VALUE, Integer.MAX_VALUE};
        for (int day : others) {
            due("day " + day, x.correct(0, day, 0, 0, 0), -1);
        }
        int[] days = {0, 1, 50, 98, 99};
        for (int i = 0; i < days.length; i++) {
            due("day " + days[i], x.correct(0, days[i], 0, 0, 0), i);
            x.as(days[i]);
            due("known on its day", x.fault(i), 1);
            if (days[i] > 0) {
                x.as(days[i] - 1);
                due("not ahead of it", x.fault(i), -1);
            }
            x.as(99);
            due("known on 99", x.fault(i), 1);
        }
    }

    static void t4OneOrNought() {
        sentence("Terms 4", "t 1 if .., r 1 if .., a 1 if .. (0 else)");
        int[] values = {0, 1, 2, -1, Integer.MAX_VALUE, Integer.MIN_VALUE};
        for (int place = 0; place < 3; place++) {
            for (int i = 0; i < values.length; i++) {
                TypingPool x = poolWithOneDone();
                int[] c = {0, 0, 0};
                c[place] = values[i];
                due("number " + place + " being " + values[i], x.correct(0, 0, c[0], c[1], c[2]), i < 2 ? 0 : -1);
                due("corrections", x.count(4), i < 2 ? 1 : 0);
            }
        }
    }

    static void t4Undone() {
        sentence("Terms 4", "One may be UNDONE from a DAY on: it is KNOWN as long as that DAY is above AS");
        TypingPool x = poolWithOneDone();
        x.correct(0, 5, 0, 0, 0);
        x.undo(0, 9);
        int[] days = {0, 4, 5, 8, 9, 10, 99};
        int[] faults = {-1, -1, 1, 1, -1, -1, -1};
        for (int i = 0; i < days.length; i++) {
            x.as(days[i]);
            due("as of " + days[i], x.fault(0), faults[i]);
            due("as of " + days[i], x.faults(0, 1), Math.max(0, faults[i]));
        }
        x.undo(0, 5);
        x.as(5);
        due("undone from the day from which it is known", x.fault(0), -1);
        x.correct(0, 0, 0, 0, 0);
        x.undo(1, 0);
        x.as(0);
        due("undone from 0 on", x.fault(1), -1);
        x.undo(1, 1);
        due("undone from 1 on", x.fault(1), 1);
    }

    static void t4AsAtFirst99() {
        sentence("Terms 4", "AS: a DAY (0 .. 99; at first 99)");
        TypingPool x = new TypingPool();
        due("at first", x.count(9), 99);
        int[] others = {-1, 100, Integer.MIN_VALUE, Integer.MAX_VALUE};
        for (int day : others) {
            due("as(" + day + ")", x.as(day), -1);
            due("as it was", x.count(9), 99);
        }
        due("as(0)", x.as(0), 99);
        due("as(99)", x.as(99), 0);
    }

    static void t4SlipsOf16() {
        sentence("Terms 4", "two readers (0, 1) found some of 16, as bits");
        TypingPool x = poolWithOneDone();
        due("none", x.slips(0, 0, 0), true);
        due("all", x.slips(0, 1, 65535), true);
        due("found", x.left(0, 1), 16);
        int[] others = {65536, 65537, -1, Integer.MIN_VALUE, Integer.MAX_VALUE};
        for (int bits : others) {
            due("bits " + bits, x.slips(0, 1, bits), false);
        }
        int[] readers = {-1, 2, Integer.MIN_VALUE, Integer.MAX_VALUE};
        for (int reader : readers) {
            due("reader " + reader, x.slips(0, reader, 1), false);
        }
        due("as it was", x.left(0, 1), 16);
        due("only one has them", x.left(0, 2), 0);
    }

    private static int leftOf(int first, int second) {
        TypingPool x = new TypingPool();
        plain(x, 1, 0, 0);
        x.slips(0, 0, first);
        x.slips(0, 1, second);
        return x.left(0, 0);
    }

    static void t4LeftIsCut() {
        sentence("Terms 4", "as many as only 0 found times only 1 found, by what both found (cut)");
        due("2 times 3 by 1", leftOf(0b111, 0b111001), 6);
        due("2 times 3 by 2", leftOf(0b1111, 0b1110011), 3);
        due("1 times 1 by 2", leftOf(0b111, 0b1011), 0);
        due("3 times 1 by 2", leftOf(0b11111, 0b100011), 1);
        due("5 times 1 by 3: 1.67", leftOf(0b11111111, 0b100000111), 1);
        due("7 times 8 by 1", leftOf(0b11111111, 0b1111111110000000), 56);
        due("0 times 1", leftOf(1, 3), 0);
        due("1 times 0", leftOf(3, 1), 0);
        due("all by both", leftOf(65535, 65535), 0);
        due("the highest by both", leftOf(0x8001, 0x8002), 1);
    }

    static void t4LeftNone() {
        sentence("Terms 4", "or NONE, if both found none together");
        due("nothing found", leftOf(0, 0), -1);
        due("0 found all", leftOf(65535, 0), -1);
        due("1 found all", leftOf(0, 65535), -1);
        due("each their own", leftOf(0xAAAA, 0x5555), -1);
        TypingPool x = new TypingPool();
        plain(x, 1, 0, 0);
        due("nothing told", x.left(0, 0), -1);
    }

    // ---- 5

    static void t5OneToFivePieces() {
        sentence("Terms 5", "some of the PIECES that have COME and are not taken (1 .. 5)");
        TypingPool x = poolWith(60);
        for (int i = 0; i < 30; i++) {
            plain(x, 1, i == 28 ? 1 : 0, 4800);
        }
        due("none", x.plan(0, 1), -1);
        due("one", x.plan(1, 1), 0);
        dueRow(x, 0, -1);
        due("five", x.plan(0b11111, 1), 0);
        dueRow(x, 0, 1, 2, 3, 4, -1);
        due("six", x.plan(0b111111, 1), -1);
        due("all", x.plan(-1, 1), -1);
        due("the last one", x.plan(1 << 29, 1), 0);
        dueRow(x, 29, -1);
        due("30 is none", x.plan(1 << 30, 1), -1);
        due("31 is none", x.plan(1 << 31, 1), -1);
        due("28 has not come", x.plan(1 << 28, 1), -1);
        x.step(1);
        due("now it has", x.plan(1 << 28, 1), 0);
        due("0 is done", x.plan(1, 1), -1);
        TypingPool y = poolWith(60);
        plain(y, 2, 0, 4800);
        plain(y, 2, 0, 4800);
        y.step(1);
        due("0 is taken", y.plan(1, 1), -1);
        due("0 is taken, 1 not", y.plan(3, 1), -1);
        due("1 not", y.plan(2, 1), 0);
    }

    static void t5OneToThreeHands() {
        sentence("Terms 5", "some HANDS (1 .. 3)");
        TypingPool x = new TypingPool();
        for (int i = 0; i < 8; i++) {
            x.hand(60, 1, 0, 0);
        }
        plain(x, 1, 0, 0);
        due("none", x.plan(1, 0), -1);
        due("one", x.plan(1, 1), 1);
        dueRow(x, 0, -1);
        due("three", x.plan(1, 0b11100000), 1);
        dueRow(x, -1, -1, 0, -1);
        due("four", x.plan(1, 0b1111), -1);
        due("all", x.plan(1, -1), -1);
        due("8 is none", x.plan(1, 1 << 8), -1);
        due("31 is none", x.plan(1, 1 << 31), -1);
        TypingPool y = poolWith(60);
        plain(y, 1, 0, 0);
        due("1 is none", y.plan(1, 2), -1);
        due("1 is none, 0 is one", y.plan(1, 3), -1);
    }

    static void t5MayByTheDayOfNow() {
        sentence("Terms 5", "each PIECE to one of them that MAY do it (as the RULES are on the DAY of NOW)");
        TypingPool x = poolWith(60);
        x.hand(60, 2, 0, 0);
        plain(x, 1, 0, 4800);
        x.piece(0, 1, 1, 0, 0, 0, 4800, 0, 0);
        due("one each", x.plan(3, 3), 0);
        dueRow(x, 0, -1, 1, -1);
        due("nobody for 1", x.plan(3, 1), -2);
        x.away(0, 0, 4800);
        x.away(1, 0, 4800);
        tell(x, "0", 1, 1);
        x.step(479);
        due("on day 0, though it is done on day 1", x.plan(1, 1), 1);
        x.step(1);
        due("on day 1", x.plan(1, 1), -2);
    }

    static void t5FromNowOn() {
        sentence("Terms 5", "A HAND does its row one behind the other, from NOW on");
        TypingPool x = poolWith(60);
        x.step(100);
        plain(x, 10, 100, 110);
        plain(x, 10, 100, 120);
        due("done at 110 and 120", x.lateness(3, 1), 0);
        plain(x, 10, 100, 119);
        due("done at 120", x.lateness(5, 1), 1);
    }

    static void t5WhenItHasDoneWhatItHas() {
        sentence("Terms 5", "(from when it has done what it has)");
        int[][] answers = {{60, 16}, {59, 18}, {200, 5}};
        for (int[] a : answers) {
            TypingPool x = poolWith(a[0]);
            plain(x, 6, 0, 4800);
            plain(x, 10, 1, 1);
            x.step(1);
            due("6 lines, then 10 at " + a[0], x.lateness(2, 1), a[1] - 1);
        }
    }

    static void t5AwayAsTold() {
        sentence("Terms 5", "AWAY as told");
        TypingPool x = poolWith(60);
        plain(x, 5, 0, 5);
        x.away(0, 5, 9);
        due("done when it goes", x.lateness(1, 1), 0);
        x.away(0, 4, 5);
        due("the last minute behind that", x.lateness(1, 1), 5);
        x.away(0, 0, 1);
        due("a minute later", x.lateness(1, 1), 6);
        x.away(0, 9, 10);
        due("and one more", x.lateness(1, 1), 7);
        x.away(0, 0, 9);
        due("one about others", x.lateness(1, 1), 10);
    }

    static void t5AwayOfAnother() {
        sentence("Terms 5", "AWAY as told: a HAND's own");
        TypingPool x = poolWith(60);
        x.hand(60, 1, 0, 0);
        plain(x, 5, 0, 0);
        x.away(1, 0, 3);
        x.away(1, 4, 9);
        due("the one that is there", x.lateness(1, 1), 5);
        due("the other: a minute at 3, four from 9 on", x.lateness(1, 2), 13);
        due("both", x.plan(1, 3), 1);
        dueRow(x, 0, -1, -1);
        x.away(0, 5, 50);
        due("done just ahead of going", x.lateness(1, 1), 5);
        x.away(0, 7, 50);
        due("told twice", x.lateness(1, 1), 5);
        x.step(1);
        due("the first has it", x.at(0, 1), 0);
        plain(x, 3, 1, 1);
        due("four left, then one away, then three", x.lateness(2, 1), 52);
    }

    static void t5WhatItHasTeaches() {
        sentence("Terms 5", "(from when it has done what it has) .. (it learns)");
        TypingPool x = new TypingPool();
        x.hand(60, 1, 1, 0);
        x.piece(0, 0, 1, 0, 9, 0, 100, 0b10, 0);
        x.piece(0, 0, 11, 0, 0, 0, 0, 0b11, 0);
        x.step(1);
        due("rate", x.of(0, 6), 55);
        due("5 are left: one minute, then 11 at 60", x.lateness(2, 1), 13);
        x.piece(0, 0, 11, 0, 0, 1, 0, 0b111, 0);
        due("refused", x.count(2), 2);
        x.piece(0, 0, 11, 0, 0, 1, 1, 0b111, 0);
        due("660 at 55: 12", x.lateness(4, 1), 13);
    }

    static void t5ItLearns() {
        sentence("Terms 5", "each at its RATE as it is then (it learns)");
        TypingPool x = poolWith(60);
        x.piece(0, 0, 11, 0, 0, 0, 12, 1, 0);
        x.piece(0, 0, 11, 0, 0, 0, 23, 1, 0);
        due("660 at 55, then at 60", x.lateness(3, 1), 0);
        TypingPool y = poolWith(60);
        y.piece(0, 0, 11, 0, 0, 0, 12, 1, 0);
        y.piece(0, 0, 11, 0, 0, 0, 22, 1, 0);
        due("a minute late", y.lateness(3, 1), 1);
        due("nobody knows more for it", y.of(0, 1), 0);
        TypingPool z = poolWith(10);
        z.piece(0, 0, 1, 0, 0, 0, 12, 65535, 0);
        z.piece(0, 0, 1, 0, 0, 0, 18, 65535, 0);
        due("5 at least, then 10", z.lateness(3, 1), 0);
    }

    static void t5LatenessNoughtAtLeast() {
        sentence("Terms 5", "how much it is DONE behind DUE (0 at least; whole by MINUTES as in 2)");
        TypingPool x = poolWith(59);
        plain(x, 1, 0, 2);
        plain(x, 1, 0, 1);
        plain(x, 1, 0, 4800);
        due("60 at 59: done at 2", x.lateness(1, 1), 0);
        due("a minute late", x.lateness(2, 1), 1);
        due("early does not help", x.lateness(6, 1), 1);
        due("early is not late", x.plan(4, 1), 0);
        due("each begins with a whole minute", x.lateness(3, 1), 3);
    }

    static void t5Tried() {
        sentence("Terms 5", "TRIED: all goes on for some MINUTES, then all is as it was");
        TypingPool x = poolWith(60);
        x.piece(1, 0, 2, 0, 0, 0, 1, 5, 0);
        x.tried(-1, 960);
        x.ill(0, 960);
        due("now", x.count(0), 0);
        due("piece", x.at(0, 0) * 1000 + x.at(0, 4), 1120);
        due("late", x.at(0, 5), 0);
        due("words", x.of(0, 1), 0);
        due("worked", x.of(0, 2), 0);
        due("has", x.of(0, 0), -1);
        due("away", x.of(0, 5), 0);
        due("aways told", x.count(5), 0);
        due("waited", x.claims(1, 0), 0);
        x.step(3);
        due("then it goes on", x.at(0, 3), 3);
    }

    static void t5TriedGoesOnFromNow() {
        sentence("Terms 5", "TRIED: all goes on for some MINUTES");
        TypingPool x = new TypingPool();
        x.hand(60, 1, 0b111, 0);
        x.piece(0, 0, 2, 0, 9, 0, 4, 0b111, 0);
        x.piece(5, 0, 2, 0, 5, 0, 4, 0b111, 0);
        x.piece(6, 0, 2, 0, 4, 0, 100, 0b111, 0);
        due("with the words that it knows", x.tried(-1, 6), 0);
        dueRow(x, 0, 0, 0, 0, 0, 2, 4, 0);
        x.step(1);
        due("with what it has", x.tried(-1, 5), 0);
        dueRow(x, 0, 0, 0, 0, 0, 2, 4, 0);
        due("ill from 1 on", x.ill(0, 5), 2);
        x.step(2);
        due("with what has waited", x.tried(-1, 0), 0);
        dueRow(x, 0, 0, 0, 0, 0, 2, 0, 0);
    }

    static void t5Row() {
        sentence("Terms 5", "ROW: numbers told last by a call that says so");
        TypingPool x = poolWith(60);
        plain(x, 1, 0, 9);
        due("nothing told yet", x.count(10), 0);
        x.tried(-1, 0);
        due("by tried", x.count(10), 8);
        x.plan(1, 1);
        dueRow(x, 0, -1);
        x.lateness(1, 1);
        x.ill(0, 5);
        x.step(5);
        x.claims(0, 0);
        dueRow(x, 0, -1);
        x.tried(-1, 5);
        dueRow(x, 0, 0, 0, 0, 0, 0, 0, 0);
    }
}
