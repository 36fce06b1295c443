/**
 * Promises 21 to 26 and 28 to 39: what is told in thought. A PLAYER of SKILL 50 has LEGS of 50 less s behind s
 * SECONDS on the ICE; in THIRD 2 ODDS ours are twice that, ODDS against 100: so the sums can be worked by hand.
 */
public final class ThoughtTest {
    private static final Check check = new Check();
    private static final int NO = -1000000000;
    private static final String ONE = "player 0 50 0;line 0 0;on 0;third 2";
    private static final String TWO = "player 0 50 0;player 0 50 0;line 0 0;line 1 1;on 0;third 2";

    public static void main(String[] args) {
        behind();
        gains();
        tiredest();
        fresh();
        third();
        theirsFor();
        two();
        shifts();
        bestShift();
        changeNow();
        where();
        meets();
        match();
        pull();
        minutes();
        penalty();
        judge();
        booked();
        thoughtChangesNothing();
        check.end("ThoughtTest");
    }

    private static void refusals(OverTheBoards x, int bad, int stuck) {
        check.due("bad ones", x.status(12), bad);
        check.due("stuck ones", x.status(15), stuck);
    }

    private static void behind() {
        OverTheBoards x = Check.from("player 0 50 0;player 1 50 0;player 3 50 0;player 4 50 0;line 0 0 1;on 0;third 2;half 1");
        x.tell(2, 1, 21);
        x.tell(3, 1, 100);
        int[][] want = {{0, 0, 21, 100}, {20, 30, 1, 90}, {22, 33, 0, 89}, {66, 99, 0, 67}, {68, 100, 0, 66}, {100, 100, 0, 0}};
        int[] n = {0, 10, 11, 33, 34, 600};
        for (int i = 0; i < n.length; i++) {
            for (int p = 0; p < 4; p++) check.due("behind " + n[i] + ", " + p, x.behind(n[i], p), want[i][p]);
        }
        check.due("power", x.behind(10, -1), 40 + 35);
        x.line(1, 0b100);
        check.due("way", x.change(1), 3);
        check.due("power of one coming", x.behind(2, -1), 50 * 73 / 100 / 2);
        check.due("power of one who came", x.behind(3, -1), 50 * 70 / 100);
        check.due("bad n", x.behind(-1, 0), -2);
        check.due("bad n", x.behind(601, 0), -2);
        check.due("bad player", x.behind(0, 4), -2);
        check.due("bad player", x.behind(0, -2), -2);
        refusals(x, 4, 0);
    }

    private static void gains() {
        OverTheBoards x = Check.from(ONE);
        check.due("gains 0", x.gains(0), 0);
        check.due("gains 1", x.gains(1), -2);
        check.due("gains 10", x.gains(10), -110);
        check.due("gains 50", x.gains(50), -2550);
        check.due("gains 600", x.gains(600), -57550);
        x.player(0, 50, 0);
        x.line(1, 0b10);
        x.ask(1, 1);
        check.due("way", x.change(1), 3);
        check.due("with one coming", x.gains(5), 48 + 48 + 46 + 92 + 90 - 500);
        check.due("bad", x.gains(-1), NO - 2);
        check.due("bad", x.gains(601), NO - 2);
        refusals(x, 2, 0);
    }

    private static void tiredest() {
        OverTheBoards x = new OverTheBoards();
        check.due("nobody", x.tiredest(0), -5);
        check.due("bad", x.tiredest(-1), -2);
        check.due("bad", x.tiredest(601), -2);
        refusals(x, 2, 1);
        x = Check.from(TWO);
        check.due("all alike", x.tiredest(0), 0);
        x.tell(1, 1, 30);
        check.due("behind 9", x.tiredest(9), 1);
        check.due("behind 10: the first", x.tiredest(10), 0);
        check.due("behind 600", x.tiredest(600), 0);
    }

    private static void fresh() {
        OverTheBoards x = Check.from("player 0 50 0;player 3 50 0;line 0 0 1;on 0");
        x.tell(0, 1, 10);
        x.tell(1, 1, 10);
        int[][] want = {{600, 0}, {20, 0}, {19, 1}, {17, 1}, {16, 2}, {5, 5}, {4, 6}, {0, 10}};
        for (int[] w : want) check.due("fresh " + w[0], x.fresh(0, w[0]), w[1]);
        x.tell(0, 1, 100);
        check.due("fresh of 100", x.fresh(0, 0), 100);
        check.due("bad", x.fresh(4, 0), -2);
        check.due("bad", x.fresh(-1, 0), -2);
        check.due("bad", x.fresh(0, -1), -2);
        check.due("bad", x.fresh(0, 601), -2);
        check.due("bad comes first", x.fresh(1, 601), -2);
        check.due("stuck", x.fresh(1, 0), -5);
        refusals(x, 5, 1);
    }

    private static void third() {
        OverTheBoards x = Check.from(ONE + ";third 0");
        check.due("third", x.third(1), 2);
        check.due("third 0 of several", x.third(0), 0);
        check.due("bad", x.third(-1), -2);
        check.due("bad", x.third(601), -2);
        refusals(x, 2, 0);
        check.due("the puck stays", x.status(4), 0);
    }

    private static void theirsFor() {
        OverTheBoards x = Check.from(ONE);
        check.due("none at all", x.theirsFor(0), 999);
        check.due("98 of theirs", x.theirsFor(1), 148);
        x.tell(0, 1, 100);
        check.due("1 does no harm in third 2", x.theirsFor(3), 1);
        x.ask(0, 1);
        check.due("none", x.theirsFor(3), 0);
        check.due("bad", x.theirsFor(-1), -2);
        check.due("bad", x.theirsFor(601), -2);
        refusals(x, 2, 0);
        check.due("theirs stay", x.status(6), 150);
    }

    private static void two() {
        OverTheBoards x = Check.from(TWO);
        check.due("two", x.two(0, 1, 2), 98 + 96 - 200 + 48 + 96 - 200);
        check.due("the same line twice", x.two(1, 1, 1), 98 + 96 - 200);
        check.due("of 0", x.two(0, 1, 0), 0);
        int[][] bad = {{4, 0, 1}, {-1, 0, 1}, {0, 4, 1}, {0, -1, 1}, {0, 1, -1}, {0, 1, 601}, {2, 4, 1}};
        for (int[] b : bad) check.due("bad", x.two(b[0], b[1], b[2]), NO - 2);
        check.due("stuck", x.two(2, 0, 1), NO - 5);
        check.due("stuck", x.two(0, 2, 1), NO - 5);
        refusals(x, bad.length, 2);
    }

    private static void shifts() {
        OverTheBoards x = Check.from(TWO);
        check.due("no seconds", x.shifts(5, 0), 0);
        check.due("shifts 5, 5", x.shifts(5, 5), 470 - 500);
        check.due("shifts 5, 6", x.shifts(5, 6), 470 + 48 - 600);
        check.due("shifts 5, 12", x.shifts(5, 12), 470 + 420 + 46 + 90 - 1200);
        x.line(3, 1);
        x.line(0, 0);
        check.due("lines with players only", x.shifts(5, 12), 470 + 420 + 46 + 90 - 1200);
        x.line(3, 0);
        check.due("one line alone", x.shifts(99, 600), -57550);
        check.due("one line alone", x.shifts(5, 10), -110);
        int[][] bad = {{4, 1}, {100, 1}, {5, -1}, {5, 601}};
        for (int[] b : bad) check.due("bad", x.shifts(b[0], b[1]), NO - 2);
        x.line(1, 0);
        check.due("bad comes first", x.shifts(4, 1), NO - 2);
        check.due("stuck", x.shifts(5, 1), NO - 5);
        refusals(x, 5, 1);
    }

    private static void bestShift() {
        OverTheBoards x = Check.from(TWO);
        check.due("of several the least", x.bestShift(0), 5);
        check.due("of several the least", x.bestShift(5), 5);
        int best = 5;
        for (int k = 6; k <= 99; k++) if (x.shifts(k, 400) > x.shifts(best, 400)) best = k;
        check.due("bestShift 400", x.bestShift(400), best);
        x.line(1, 0b1);
        check.due("two lines of the same player: all alike", x.bestShift(600), 5);
        x.line(1, 0b10);
        check.due("it isn't the first", best > 5 && best < 99 ? 1 : 0, 1);
        check.due("bad", x.bestShift(-1), -2);
        check.due("bad", x.bestShift(601), -2);
        x.line(0, 0);
        x.line(1, 0);
        check.due("bad comes first", x.bestShift(601), -2);
        check.due("stuck", x.bestShift(1), -5);
        refusals(x, 3, 1);
    }

    private static void changeNow() {
        OverTheBoards x = Check.from(TWO);
        check.due("nothing", x.changeNow(1, 0), 0);
        check.due("a second lost by half", x.changeNow(1, 3), -50);
        check.due("to those who are on", x.changeNow(0, 30), 0);
        x.tell(0, 1, 100);
        check.due("for a tired one", x.changeNow(1, 3), 48 + 96 + 94);
        int[][] bad = {{4, 1}, {-1, 1}, {0, -1}, {0, 601}};
        for (int[] b : bad) check.due("bad", x.changeNow(b[0], b[1]), NO - 2);
        check.due("stuck", x.changeNow(2, 1), NO - 5);
        refusals(x, bad.length, 1);
    }

    private static void where() {
        OverTheBoards x = Check.from(TWO);
        check.due("48, 97, 50 are lost", x.where(1, 3), 0);
        check.due("of several the first", x.where(1, 0), 0);
        x.tell(0, 1, 100);
        x.ask(0, 0);
        check.due("47, 94, 238 are won", x.where(1, 3), 2);
        int[][] bad = {{4, 1}, {-1, 1}, {0, -1}, {0, 601}};
        for (int[] b : bad) check.due("bad", x.where(b[0], b[1]), -2);
        check.due("stuck", x.where(2, 1), -5);
        refusals(x, bad.length, 1);
    }

    private static void meets() {
        OverTheBoards x = Check.from(TWO);
        check.due("meets 150", x.meets(0, 150), 2360 - 4000);
        check.due("meets 1", x.meets(0, 1), 2360);
        check.due("meets 999", x.meets(1, 999), 2360 - 26640);
        int[][] bad = {{4, 1}, {-1, 1}, {0, 0}, {0, 1000}};
        for (int[] b : bad) check.due("bad", x.meets(b[0], b[1]), NO - 2);
        check.due("stuck", x.meets(2, 1), NO - 5);
        refusals(x, bad.length, 1);
    }

    private static void match() {
        OverTheBoards x = Check.from(TWO);
        x.row(0, 2, 4);
        long[] strengths = {150, 300, 10, 1000};
        for (int i = 0; i < 4; i++) x.set(0, i, strengths[i]);
        check.due("of several the first", x.match(0, 3, 0), 0);
        check.due("the least", x.match(0, 3, 1), 2360 - 8000);
        check.due("the least of one", x.match(0, 1, 1), 2360 - 4000);
        x.tell(0, 0, 49);
        check.due("the better line", x.match(0, 3, 0), 1);
        check.due("the least", x.match(0, 3, 1), 2360 - 8000);
        x.row(4, 1, 40);
        for (int i = 0; i < 40; i++) x.set(4, i, i % 2 == 0 ? 1 : 999);
        check.due("forty from 1 to 999", x.match(4, 40, 1), 2360 - 26640);
        check.due("1 alone", x.match(4, 1, 1), 2360);
        x.show(1, 0);
        check.due("a player", x.match(1, 1, 0), NO - 3);
        check.due("nothing", x.match(2, 1, 0), NO - 4);
        int[][] bad = {{8, 1, 0}, {-1, 1, 0}, {2, 0, 0}, {2, 41, 0}, {1, 1, 2}, {1, 1, -1}, {0, 5, 0}, {0, 4, 0}};
        for (int[] b : bad) check.due("bad", x.match(b[0], b[1], b[2]), NO - 2);
        x.set(0, 1, 0);
        check.due("no strength", x.match(0, 3, 0), NO - 2);
        x.row(3, 3, 1);
        x.set(3, 0, (1L << 32) + 5);
        check.due("no strength", x.match(3, 1, 0), NO - 2);
        x.line(0, 0);
        x.line(1, 0);
        check.due("no strength comes first", x.match(0, 3, 0), NO - 2);
        check.due("stuck", x.match(0, 1, 0), NO - 5);
        refusals(x, bad.length + 3, 1);
        check.due("other", x.status(13), 1);
        check.due("nothing", x.status(14), 1);
    }

    private static void pull() {
        OverTheBoards x = Check.from(ONE);
        for (int keeper = 1; keeper >= 0; keeper--) {
            x.ask(3, keeper);
            check.due("pull 0", x.pull(0, 50), 0);
            check.due("pull, part 0", x.pull(10, 0), 600);
            check.due("pull, part 100", x.pull(10, 100), 600 - 4000);
            check.due("pull, part 1", x.pull(1, 1), 56);
        }
        x.ask(0, 1);
        x.ask(2, 1);
        check.due("pull, part 50 of 4", x.pull(1, 50), 38);
        check.due("pull, part 49 of 4, cut", x.pull(1, 49), 39);
        check.due("keeper stays", x.status(7), 0);
        int[][] bad = {{-1, 0}, {601, 0}, {0, -1}, {0, 101}};
        for (int[] b : bad) check.due("bad", x.pull(b[0], b[1]), NO - 2);
        refusals(x, bad.length, 0);
    }

    private static void minutes() {
        OverTheBoards x = Check.from(TWO);
        int[] spells = {2, 6, 0, 0};
        for (int l = 0; l < 4; l++) check.due("the first row: " + l, x.minutes(l), spells[l]);
        check.due("its gains", x.minutes(-1), 2 * 2450 - 32000);
        x.line(2, 1);
        x.line(0, 0);
        x.line(3, 2);
        x.line(1, 0);
        for (int l = 0; l < 4; l++) check.due("others of two: " + l, x.minutes(l), spells[(l + 2) % 4]);
        x.line(3, 0);
        for (int l = 0; l < 4; l++) check.due("one line alone: " + l, x.minutes(l), l == 2 ? 8 : 0);
        check.due("its gains", x.minutes(-1), -2550 - 27000);
        check.due("bad", x.minutes(4), NO - 2);
        check.due("bad", x.minutes(-2), NO - 2);
        x.line(2, 0);
        check.due("bad comes first", x.minutes(4), NO - 2);
        check.due("stuck", x.minutes(0), NO - 5);
        check.due("stuck", x.minutes(-1), NO - 5);
        refusals(x, 3, 2);
    }

    private static void penalty() {
        OverTheBoards x = Check.from("player 0 50 0;player 0 40 0;player 5 41 0;line 0 0 1;on 0;third 2");
        check.due("the weaker", x.penalty(-1), 1);
        check.due("gains without him", x.penalty(10), -110);
        check.due("gains of 0", x.penalty(0), 0);
        x.line(0, 0b111);
        x.whistle(0);
        check.due("40 and 43 less 2, or 50 and 43 less 2, or 50 and 40", x.penalty(-1), 1);
        x.tell(0, 0, 40);
        check.due("of several the first", x.penalty(-1), 0);
        x.tell(0, 0, 41);
        x.tell(2, 0, 40);
        x.line(1, 0b101);
        x.line(2, 0b001);
        x.whistle(2);
        x.change(1);
        check.due("one who comes has half", x.penalty(-1), 2);
        check.due("gains without one who comes", x.penalty(1), 80 - 100);
        check.due("bad", x.penalty(-2), NO - 2);
        check.due("bad", x.penalty(601), NO - 2);
        refusals(x, 2, 0);
        x = Check.from("player 0 50 0");
        check.due("bad comes first", x.penalty(601), NO - 2);
        check.due("stuck", x.penalty(0), NO - 5);
        check.due("stuck", x.penalty(-1), NO - 5);
        refusals(x, 1, 2);
    }

    private static OverTheBoards withBook() {
        OverTheBoards x = Check.from("player 0 50 0;player 1 50 0;player 3 50 0;line 0 0 1;line 1 1");
        x.row(0, 3, 7);
        long[] book = {0, 0, 1, 0, 1, 1, 2};
        for (int i = 0; i < 7; i++) x.set(0, i, book[i]);
        x.show(1, 0);
        return x;
    }

    private static void judge() {
        OverTheBoards x = withBook();
        check.due("an empty book", x.judge(0, 0), -1);
        check.due("a good book", x.judge(0, 6), -1);
        check.due("a line without players", x.judge(0, 7), 6);
        long[] wrong = {-1, 4, 1L << 32, Long.MIN_VALUE};
        for (long w : wrong) {
            x.set(0, 2, w);
            check.due("line " + w, x.judge(0, 7), 2);
            check.due("ahead of it", x.judge(0, 2), -1);
        }
        x.set(0, 0, 3);
        check.due("the very first", x.judge(0, 1), 0);
        int[][] bad = {{8, 0}, {-1, 0}, {2, -1}, {1, 41}, {0, 8}};
        for (int[] b : bad) check.due("bad", x.judge(b[0], b[1]), -2);
        check.due("a player", x.judge(1, 9), -3);
        check.due("nothing", x.judge(2, 9), -4);
        refusals(x, bad.length, 0);
    }

    private static void booked() {
        OverTheBoards x = withBook();
        x.tell(0, 1, 77);
        int[][] longs = {{0, 0, 0}, {1, 20, 20}, {2, 40, 40}, {3, 40, 60}, {6, 40, 120}};
        for (int[] l : longs) {
            check.due("long of 0 by " + l[0], x.booked(0, l[0], 0, 0), l[1]);
            check.due("long of 1 by " + l[0], x.booked(0, l[0], 1, 0), l[2]);
            check.due("long of 2 by " + l[0], x.booked(0, l[0], 2, 0), 0);
        }
        int[][] costs = {{0, 0, 0}, {1, 20, 30}, {2, 40, 50}, {3, 30, 50}, {4, 50, 50}};
        for (int[] c : costs) {
            check.due("cost of 0 by " + c[0], x.booked(0, c[0], 0, 1), c[1]);
            check.due("cost of 1 by " + c[0], x.booked(0, c[0], 1, 1), c[2]);
            check.due("cost of 2 by " + c[0], x.booked(0, c[0], 2, 1), 0);
        }
        check.due("tired stays", x.playerOf(0, 3), 77);
        int[][] bad = {{8, 0, 0, 0}, {1, -1, 0, 0}, {2, 41, 0, 0}, {2, 0, 3, 0}, {1, 0, -1, 0}, {1, 0, 0, 2}, {0, 8, 0, 0}};
        for (int[] b : bad) check.due("bad", x.booked(b[0], b[1], b[2], b[3]), -2);
        check.due("a player", x.booked(1, 9, 0, 0), -3);
        check.due("nothing", x.booked(2, 9, 0, 0), -4);
        check.due("wrong", x.booked(0, 7, 0, 0), -5);
        check.due("wrong", x.booked(0, 7, 0, 1), -5);
        refusals(x, bad.length, 2);
    }

    private static void thoughtChangesNothing() {
        OverTheBoards x = Check.from(TWO + ";half 1;skate 9");
        x.change(1);
        x.row(0, 0, 2);
        x.set(0, 1, 1);
        int[] ahead = new int[20];
        for (int i = 0; i < 20; i++) ahead[i] = x.status(i);
        x.behind(9, 0);
        x.gains(9);
        x.tiredest(9);
        x.fresh(0, 0);
        x.third(9);
        x.theirsFor(9);
        x.five();
        x.two(0, 1, 9);
        x.shifts(5, 99);
        x.bestShift(40);
        x.changeNow(0, 9);
        x.where(0, 9);
        x.meets(0, 9);
        x.pull(9, 9);
        x.minutes(-1);
        x.penalty(9);
        x.judge(0, 2);
        x.booked(0, 2, 0, 1);
        for (int i = 0; i < 20; i++) check.due("status(" + i + ")", x.status(i), ahead[i]);
        check.due("tired 0", x.playerOf(0, 3), 18);
        check.due("tired 1", x.playerOf(1, 3), 0);
    }
}
