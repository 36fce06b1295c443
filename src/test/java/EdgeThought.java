/**
 * Boundaries of promises 21 to 26 and 28 to 37, and of what Terms say of thought. A PLAYER of SKILL 50 has LEGS of
 * 50 less s behind s SECONDS on the ICE; in THIRD 2 ODDS ours are twice that, ODDS against 100.
 */
final class EdgeThought {
    private static final String ONE = "player 0 50 0;line 0 0;on 0;third 2";
    private static final String TWO = "player 0 50 0;player 0 50 0;line 0 0;line 1 1;on 0;third 2";
    private static final int NO_BAD = Edges.NO + Edges.BAD;
    private static final int NO_STUCK = Edges.NO + Edges.STUCK;
    private static final int[] NO_SECONDS = {-1, 601, Edges.LOW, Edges.HIGH};
    private static final int[] NO_LINES = {-1, 4, Edges.LOW, Edges.HIGH};
    private final Edges e;

    private EdgeThought(Edges e) {
        this.e = e;
    }

    static void run(Edges e) {
        EdgeThought t = new EdgeThought(e);
        t.behind();
        t.gains();
        t.tiredest();
        t.fresh();
        t.third();
        t.theirsFor();
        t.twoLines();
        t.shifts();
        t.bestShift();
        t.changeNow();
        t.where();
        t.meets();
        t.match();
        t.matchRefused();
        t.pull();
        t.minutes();
        t.penalty();
    }

    private static OverTheBoards one() {
        return Check.from(ONE);
    }

    private static OverTheBoards two() {
        return Check.from(TWO);
    }

    private static OverTheBoards noLine() {
        return Check.from("player 0 50 0;player 3 60 0");
    }

    private void behind() {
        e.at(0, "BEHIND n SECONDS (0 to 600), without changes: TIRED, POWER.");
        OverTheBoards x = two();
        e.due("behind(0, -1)", x.behind(0, -1), 50);
        e.due("behind(49, -1)", x.behind(49, -1), 1);
        e.due("behind(50, -1)", x.behind(50, -1), 0);
        e.due("behind(600, -1)", x.behind(600, -1), 0);
        x.change(1);
        e.due("behind(0, -1), one COMING", x.behind(0, -1), 25);
        e.due("behind(1, -1), he came", x.behind(1, -1), 49);
        e.at(21, "BEHIND n SECONDS: TIRED of a PLAYER; POWER (player NONE).");
        x = two();
        x.tell(1, 1, 100);
        int[][] tired = {{0, 0, 100}, {1, 2, 99}, {49, 98, 51}, {50, 100, 50}, {51, 100, 49}, {99, 100, 1}, {100, 100, 0},
            {101, 100, 0}, {600, 100, 0}};
        for (int[] t : tired) {
            for (int p = 0; p < 2; p++) e.due("behind(" + t[0] + ", " + p + ")", x.behind(t[0], p), t[1 + p]);
        }
        e.due("behind(600, -1)", x.behind(600, -1), 0);
        e.due("behind(0, -1) of nobody", new OverTheBoards().behind(0, -1), 0);
        e.at(21, "BAD.");
        e.refusedEach(EdgeThought::two, "behind(#, 0)", (y, v) -> y.behind(v, 0), Edges.BAD, NO_SECONDS);
        e.refusedEach(EdgeThought::two, "behind(#, -1)", (y, v) -> y.behind(v, -1), Edges.BAD, NO_SECONDS);
        e.refusedEach(EdgeThought::two, "behind(0, #)", (y, v) -> y.behind(0, v), Edges.BAD, -2, 2, 10, Edges.LOW, Edges.HIGH);
        e.refused(OverTheBoards::new, "behind(0, 0) of nobody", y -> y.behind(0, 0), Edges.BAD);
    }

    private void gains() {
        e.at(0, "GAINS of n SECONDS: the sum of ODDS ours less ODDS against, SECOND by SECOND: the SECOND (who is TIRED then), ODDS, then COMING is a SECOND less.");
        OverTheBoards x = Check.from(TWO + ";half 1");
        e.due("change(1)", x.change(1), 3);
        int[] sums = {0, 48, 96, 142, 234};
        for (int n = 0; n < 5; n++) e.due("gains(" + n + "), one COMING for 3", x.gains(n), sums[n] - 100 * n);
        e.at(22, "GAINS of n SECONDS (0 to 600).");
        x = one();
        e.due("gains(0)", x.gains(0), 0);
        e.due("gains(1)", x.gains(1), -2);
        e.due("gains(49)", x.gains(49), 2450 - 4900);
        e.due("gains(50)", x.gains(50), 2450 - 5000);
        e.due("gains(600)", x.gains(600), 2450 - 60000);
        e.due("gains(600) of nobody", new OverTheBoards().gains(600), -120000);
        x = new OverTheBoards();
        for (int p = 0; p < 5; p++) x.player(5, 99, 0);
        x.line(0, 0b11111);
        x.whistle(0);
        x.ask(2, 1);
        x.ask(0, 2);
        // five CALLERS have 8 more each for ever; their LEGS sum up to 99 less 1.98 for each SECOND, cut
        int legs = 0;
        for (int s = 1; s <= 50; s++) legs += 99 * (100 - 2 * s) / 100;
        e.due("gains(600) that are most", x.gains(600), 2 * 5 * (legs + 600 * 8));
        e.at(22, "-1000000002.");
        e.refusedEach(EdgeThought::one, "gains(#)", (y, v) -> y.gains(v), NO_BAD, NO_SECONDS);
        e.refusedEach(OverTheBoards::new, "gains(#)", (y, v) -> y.gains(v), NO_BAD, -1, 601);
    }

    private void tiredest() {
        e.at(23, "The PLAYER who is most TIRED behind n SECONDS (0 to 600), of several the first.");
        OverTheBoards x = two();
        e.due("tiredest(0) of two alike", x.tiredest(0), 0);
        x.tell(1, 1, 3);
        e.due("tiredest(0)", x.tiredest(0), 1);
        e.due("tiredest(1): 2 and 2", x.tiredest(1), 0);
        x.tell(1, 1, 4);
        e.due("tiredest(1): 2 and 3", x.tiredest(1), 1);
        x.whistle(1);
        e.due("tiredest(600): 0 and 100", x.tiredest(600), 1);
        x.line(2, 0b11);
        x.whistle(2);
        e.due("tiredest(600): 100 and 100", x.tiredest(600), 0);
        e.due("tiredest(600) of one alone", one().tiredest(600), 0);
        x = new OverTheBoards();
        for (int p = 0; p < 10; p++) x.player(0, 1, 0);
        x.tell(9, 1, 1);
        e.due("tiredest(0) of ten", x.tiredest(0), 9);
        e.at(23, "BAD");
        e.refusedEach(EdgeThought::two, "tiredest(#)", (y, v) -> y.tiredest(v), Edges.BAD, NO_SECONDS);
        e.refusedEach(OverTheBoards::new, "tiredest(#) of nobody", (y, v) -> y.tiredest(v), Edges.BAD, -1, 601);
        e.at(23, "STUCK: nobody.");
        e.refusedEach(OverTheBoards::new, "tiredest(#)", (y, v) -> y.tiredest(v), Edges.STUCK, 0, 600);
    }

    private void fresh() {
        e.at(24, "How many SECONDS, nobody being on the ICE, until all PLAYERS of LINE l are TIRED by v (0 to 600) at most together.");
        OverTheBoards x = new OverTheBoards();
        for (int p = 0; p < 5; p++) x.player(0, 50, 0);
        x.line(3, 0b11111);
        e.due("fresh(3, 0) of fresh ones", x.fresh(3, 0), 0);
        for (int p = 0; p < 5; p++) x.tell(p, 1, 100);
        x.whistle(3);
        int[][] want = {{600, 0}, {500, 0}, {499, 1}, {495, 1}, {494, 2}, {5, 99}, {4, 100}, {0, 100}};
        for (int[] w : want) e.due("fresh(3, " + w[0] + "), five of 100", x.fresh(3, w[0]), w[1]);
        x = Check.from("player 3 50 0;line 0 0;on 0");
        int[][] star = {{0, 0}, {1, 1}, {2, 1}, {3, 2}, {99, 50}, {100, 50}};
        for (int[] s : star) {
            x.tell(0, 1, s[0]);
            e.due("fresh(0, 0) of a STAR of " + s[0], x.fresh(0, 0), s[1]);
        }
        e.due("fresh(0, 99) of a STAR of 100", x.fresh(0, 99), 1);
        e.due("fresh(0, 98) of a STAR of 100", x.fresh(0, 98), 1);
        e.due("fresh(0, 97) of a STAR of 100", x.fresh(0, 97), 2);
        e.at(24, "BAD");
        e.refusedEach(EdgeThought::two, "fresh(#, 0)", (y, v) -> y.fresh(v, 0), Edges.BAD, NO_LINES);
        e.refusedEach(EdgeThought::two, "fresh(0, #)", (y, v) -> y.fresh(0, v), Edges.BAD, NO_SECONDS);
        e.refusedEach(EdgeThought::two, "fresh(2, #)", (y, v) -> y.fresh(2, v), Edges.BAD, NO_SECONDS);
        e.at(24, "STUCK: it has no PLAYERS.");
        e.refusedEach(EdgeThought::two, "fresh(#, 0)", (y, v) -> y.fresh(v, 0), Edges.STUCK, 2, 3);
        e.refusedEach(EdgeThought::two, "fresh(2, #)", (y, v) -> y.fresh(2, v), Edges.STUCK, 0, 600);
    }

    private void third() {
        e.at(25, "The THIRD in which GAINS of n SECONDS would be most, of several the first.");
        for (int t = 0; t < 3; t++) {
            OverTheBoards x = one();
            x.ask(0, t);
            e.due("third(0), the puck in " + t, x.third(0), 0);
            e.due("third(1), the puck in " + t, x.third(1), 2);
            e.due("third(600), the puck in " + t, x.third(600), 2);
            e.due("status(4)", x.status(4), t);
        }
        e.due("third(600) of nobody", new OverTheBoards().third(600), 2);
        OverTheBoards strong = one();
        strong.ask(2, 1);
        // each THIRD is thought of from how things stand, not from how the last one left the PLAYERS
        e.due("gains(0)", strong.gains(0), 0);
        e.due("third(50) against 1", strong.third(50), 2);
        e.at(25, "BAD.");
        e.refusedEach(EdgeThought::one, "third(#)", (y, v) -> y.third(v), Edges.BAD, NO_SECONDS);
    }

    private void theirsFor() {
        e.at(26, "The greatest THEIRS (1 to 999) with which GAINS of n SECONDS aren't below 0; 0: none.");
        OverTheBoards x = one();
        e.due("theirsFor(0)", x.theirsFor(0), 999);
        e.due("theirsFor(1): GAINS of 98 less 98", x.theirsFor(1), 148);
        e.due("theirsFor(600): 2450 by 600 is 4", x.theirsFor(600), 7);
        x.tell(0, 1, 100);
        e.due("theirsFor(600), 1 doing no harm", x.theirsFor(600), 1);
        x.ask(0, 1);
        e.due("theirsFor(1), none", x.theirsFor(1), 0);
        e.due("theirsFor(0)", x.theirsFor(0), 999);
        x = new OverTheBoards();
        for (int p = 0; p < 5; p++) x.player(0, 99, 0);
        x.line(0, 0b11111);
        x.whistle(0);
        x.ask(0, 2);
        e.due("theirsFor(1) of five of 97", x.theirsFor(1), 999);
        x.ask(0, 1);
        e.due("theirsFor(1): 646 less 646", x.theirsFor(1), 485);
        for (int p = 1; p < 5; p++) x.tell(p, 1, 100);
        x.tell(0, 0, 1);
        x.ask(0, 2);
        x.tell(0, 1, 0);
        e.due("theirsFor(1) of no LEGS", x.theirsFor(1), 1);
        e.at(26, "BAD.");
        e.refusedEach(EdgeThought::one, "theirsFor(#)", (y, v) -> y.theirsFor(v), Edges.BAD, NO_SECONDS);
    }

    private void twoLines() {
        e.at(28, "GAINS of n SECONDS of LINE l, on by a whistle, then a CHANGE to LINE m, and n SECONDS of that.");
        OverTheBoards x = two();
        e.due("two(0, 1, 0)", x.two(0, 1, 0), 0);
        e.due("two(0, 1, 1)", x.two(0, 1, 1), 98 + 48 - 200);
        e.due("two(0, 0, 1)", x.two(0, 0, 1), 98 + 96 - 200);
        e.due("two(0, 0, 600)", x.two(0, 0, 600), 2450 - 120000);
        x.line(3, 0b10);
        e.due("two(3, 0, 1)", x.two(3, 0, 1), 98 + 48 - 200);
        e.due("two(0, 1, 600)", x.two(0, 1, 600), 2450 + 2450 - 50 - 120000);
        e.at(28, "-1000000002");
        e.refusedEach(EdgeThought::two, "two(#, 0, 1)", (y, v) -> y.two(v, 0, 1), NO_BAD, NO_LINES);
        e.refusedEach(EdgeThought::two, "two(0, #, 1)", (y, v) -> y.two(0, v, 1), NO_BAD, NO_LINES);
        e.refusedEach(EdgeThought::two, "two(0, 1, #)", (y, v) -> y.two(0, 1, v), NO_BAD, NO_SECONDS);
        e.refused(EdgeThought::two, "two(2, 4, 1)", y -> y.two(2, 4, 1), NO_BAD);
        e.refused(EdgeThought::two, "two(4, 2, 1)", y -> y.two(4, 2, 1), NO_BAD);
        e.refused(EdgeThought::two, "two(2, 3, 601)", y -> y.two(2, 3, 601), NO_BAD);
        e.at(28, "-1000000005: one has no PLAYERS.");
        e.refused(EdgeThought::two, "two(2, 0, 1)", y -> y.two(2, 0, 1), NO_STUCK);
        e.refused(EdgeThought::two, "two(0, 3, 1)", y -> y.two(0, 3, 1), NO_STUCK);
        e.refused(EdgeThought::two, "two(2, 2, 0)", y -> y.two(2, 2, 0), NO_STUCK);
        e.refused(EdgeThought::noLine, "two(0, 1, 600)", y -> y.two(0, 1, 600), NO_STUCK);
    }

    private void shifts() {
        e.at(0, "SHIFTS of k SECONDS (5 to 99): LINES that have PLAYERS by turns, from the first of them on, which is on by a whistle, each k SECONDS, then a CHANGE to the next one (behind the last the first), for n SECONDS in all (0 to 600): GAINS.");
        // 98 to 90, then WAY 1 of a fresh one: 48 and 96 to 90, then the first again, TIRED by 5: 46, 90
        int[] ours = {0, 98, 194, 288, 380, 470, 518, 614, 708, 800, 890, 936, 1026};
        OverTheBoards x = two();
        for (int n = 0; n < ours.length; n++) e.due("shifts(5, " + n + ")", x.shifts(5, n), ours[n] - 100 * n);
        x.line(3, 0b10);
        x.line(1, 0b01);
        x.line(0, 0);
        x.change(3);
        for (int n = 0; n < ours.length; n++) e.due("shifts(5, " + n + ") of LINES 1 and 3", x.shifts(5, n), ours[n] - 100 * n);
        e.at(29, "SHIFTS.");
        x = one();
        for (int k : new int[] {5, 98, 99}) {
            e.due("shifts(" + k + ", 0)", x.shifts(k, 0), 0);
            e.due("shifts(" + k + ", 600) of one LINE", x.shifts(k, 600), 2450 - 60000);
        }
        x = two();
        e.due("shifts(99, 99)", x.shifts(99, 99), 2450 - 9900);
        e.due("shifts(99, 100)", x.shifts(99, 100), 2450 + 48 - 10000);
        e.due("shifts(98, 99)", x.shifts(98, 99), 2450 + 48 - 9900);
        e.at(29, "-1000000002");
        e.refusedEach(EdgeThought::two, "shifts(#, 1)", (y, v) -> y.shifts(v, 1), NO_BAD, -1, 0, 4, 100, Edges.LOW, Edges.HIGH);
        e.refusedEach(EdgeThought::two, "shifts(5, #)", (y, v) -> y.shifts(5, v), NO_BAD, NO_SECONDS);
        e.refused(EdgeThought::noLine, "shifts(4, 1), no LINE having PLAYERS", y -> y.shifts(4, 1), NO_BAD);
        e.refused(EdgeThought::noLine, "shifts(5, 601), no LINE having PLAYERS", y -> y.shifts(5, 601), NO_BAD);
        e.at(29, "-1000000005: no LINE has PLAYERS.");
        e.refused(EdgeThought::noLine, "shifts(5, 0)", y -> y.shifts(5, 0), NO_STUCK);
        e.refused(OverTheBoards::new, "shifts(99, 600)", y -> y.shifts(99, 600), NO_STUCK);
    }

    private void bestShift() {
        e.at(0, "BEST SHIFT for n: the k with most GAINS, of several the least.");
        // CALLERS of no LEGS have 4 together as long as both are on; the other LINE has nothing
        OverTheBoards x = Check.from("player 5 1 0;player 5 1 0;player 0 1 0;line 0 0 1;line 1 2;third 2");
        e.due("bestShift(0)", x.bestShift(0), 5);
        e.due("bestShift(5)", x.bestShift(5), 5);
        e.due("bestShift(6)", x.bestShift(6), 6);
        e.due("bestShift(98)", x.bestShift(98), 98);
        e.due("bestShift(99)", x.bestShift(99), 99);
        e.due("bestShift(100)", x.bestShift(100), 99);
        e.at(30, "BEST SHIFT.");
        x = two();
        e.due("bestShift(0)", x.bestShift(0), 5);
        e.due("bestShift(5)", x.bestShift(5), 5);
        x.line(1, 0b01);
        e.due("bestShift(600), all alike", x.bestShift(600), 5);
        e.due("bestShift(600) of one LINE", one().bestShift(600), 5);
        e.at(30, "BAD");
        e.refusedEach(EdgeThought::two, "bestShift(#)", (y, v) -> y.bestShift(v), Edges.BAD, NO_SECONDS);
        e.refusedEach(EdgeThought::noLine, "bestShift(#), no LINE having PLAYERS", (y, v) -> y.bestShift(v), Edges.BAD, NO_SECONDS);
        e.at(30, "STUCK: no LINE has PLAYERS.");
        e.refusedEach(EdgeThought::noLine, "bestShift(#)", (y, v) -> y.bestShift(v), Edges.STUCK, 0, 600);
    }

    private void changeNow() {
        e.at(0, "CHANGE NOW to a LINE: GAINS of the next n SECONDS with it, less those without.");
        OverTheBoards x = two();
        e.due("changeNow(1, 1)", x.changeNow(1, 1), 48 - 98);
        e.due("changeNow(1, 2)", x.changeNow(1, 2), 48 - 98);
        x.tell(0, 1, 100);
        e.due("changeNow(1, 1) for a spent one", x.changeNow(1, 1), 48);
        x.change(1);
        e.due("changeNow(1, 1) while he is COMING: he is on at once", x.changeNow(1, 1), 98 - 48);
        e.at(31, "CHANGE NOW.");
        x = two();
        e.due("changeNow(1, 0)", x.changeNow(1, 0), 0);
        e.due("changeNow(0, 600) to those who are on", x.changeNow(0, 600), 0);
        e.due("changeNow(1, 600)", x.changeNow(1, 600), -50);
        x.line(3, 0b10);
        e.due("changeNow(3, 600)", x.changeNow(3, 600), -50);
        e.at(31, "-1000000002");
        e.refusedEach(EdgeThought::two, "changeNow(#, 1)", (y, v) -> y.changeNow(v, 1), NO_BAD, NO_LINES);
        e.refusedEach(EdgeThought::two, "changeNow(0, #)", (y, v) -> y.changeNow(0, v), NO_BAD, NO_SECONDS);
        e.refusedEach(EdgeThought::two, "changeNow(2, #)", (y, v) -> y.changeNow(2, v), NO_BAD, NO_SECONDS);
        e.at(31, "-1000000005: it has no PLAYERS.");
        e.refusedEach(EdgeThought::two, "changeNow(#, 0)", (y, v) -> y.changeNow(v, 0), NO_STUCK, 2, 3);
        e.refusedEach(OverTheBoards::new, "changeNow(#, 600)", (y, v) -> y.changeNow(v, 600), NO_STUCK, 0, 1, 2, 3);
    }

    private void where() {
        e.at(0, "WHERE: the THIRD with the greatest CHANGE NOW, of several the first.");
        OverTheBoards x = two();
        x.tell(0, 1, 100);
        for (int t = 0; t < 3; t++) {
            x.ask(0, t);
            e.due("where(1, 1) for a spent one, the puck in " + t, x.where(1, 1), 2);
            e.due("status(4)", x.status(4), t);
        }
        x.pause(100);
        e.due("where(1, 1) for a fresh one: 17, 34, 50 are lost", x.where(1, 1), 0);
        e.due("where(1, 3) for a fresh one: 48, 97, 50 are lost", x.where(1, 3), 0);
        e.due("where(0, 600): nothing anywhere", x.where(0, 600), 0);
        e.at(32, "WHERE.");
        e.due("where(1, 0)", x.where(1, 0), 0);
        x.tell(0, 1, 100);
        e.due("where(1, 600)", x.where(1, 600), 2);
        x.line(3, 0b10);
        e.due("where(3, 600)", x.where(3, 600), 2);
        e.at(32, "BAD");
        e.refusedEach(EdgeThought::two, "where(#, 1)", (y, v) -> y.where(v, 1), Edges.BAD, NO_LINES);
        e.refusedEach(EdgeThought::two, "where(0, #)", (y, v) -> y.where(0, v), Edges.BAD, NO_SECONDS);
        e.refusedEach(EdgeThought::two, "where(2, #)", (y, v) -> y.where(2, v), Edges.BAD, NO_SECONDS);
        e.at(32, "STUCK: it has no PLAYERS.");
        e.refusedEach(EdgeThought::two, "where(#, 0)", (y, v) -> y.where(v, 0), Edges.STUCK, 2, 3);
        e.refusedEach(OverTheBoards::new, "where(#, 600)", (y, v) -> y.where(v, 600), Edges.STUCK, 0, 1, 2, 3);
    }

    private void meets() {
        e.at(0, "MEETS of a LINE and a strength v of theirs: GAINS of 40 SECONDS, the LINE being on by a whistle, THEIRS being v.");
        // 98 down to 20
        OverTheBoards x = two();
        e.due("meets(0, 150)", x.meets(0, 150), 2360 - 40 * 100);
        x.change(1);
        e.due("meets(1, 150), none COMING", x.meets(1, 150), 2360 - 40 * 100);
        e.at(33, "MEETS (v 1 to 999).");
        e.due("meets(0, 1)", x.meets(0, 1), 2360);
        e.due("meets(0, 2)", x.meets(0, 2), 2360 - 40);
        e.due("meets(0, 999)", x.meets(0, 999), 2360 - 40 * 666);
        e.due("status(6)", x.status(6), 150);
        x.line(3, 0b10);
        e.due("meets(3, 1)", x.meets(3, 1), 2360);
        e.at(33, "-1000000002");
        e.refusedEach(EdgeThought::two, "meets(#, 1)", (y, v) -> y.meets(v, 1), NO_BAD, NO_LINES);
        e.refusedEach(EdgeThought::two, "meets(0, #)", (y, v) -> y.meets(0, v), NO_BAD, -1, 0, 1000, Edges.LOW, Edges.HIGH);
        e.refusedEach(EdgeThought::two, "meets(2, #)", (y, v) -> y.meets(2, v), NO_BAD, -1, 0, 1000);
        e.at(33, "-1000000005: it has no PLAYERS.");
        e.refusedEach(EdgeThought::two, "meets(#, 1)", (y, v) -> y.meets(v, 1), NO_STUCK, 2, 3);
        e.refusedEach(EdgeThought::two, "meets(2, #)", (y, v) -> y.meets(2, v), NO_STUCK, 1, 999);
    }

    /** SHELF 0: strengths 150, 1, 999, 0; 1: PLAYER 0; 2: no elements; 7: NOTHING. */
    private static OverTheBoards strengths() {
        OverTheBoards x = two();
        x.row(0, 2, 4);
        x.set(0, 0, 150);
        x.set(0, 1, 1);
        x.set(0, 2, 999);
        x.show(1, 0);
        x.row(2, 2, 0);
        return x;
    }

    private static OverTheBoards strengthsOfNoLine() {
        OverTheBoards x = strengths();
        x.line(0, 0);
        x.line(1, 0);
        return x;
    }

    private void match() {
        e.at(0, "MATCH of a ROW of strengths: the LINE (with PLAYERS) whose least MEETS by these is greatest, of several the first; that least one.");
        OverTheBoards x = strengths();
        e.due("match(0, 3, 0) of two alike", x.match(0, 3, 0), 0);
        x.line(0, 0);
        e.due("match(0, 3, 0), the first without PLAYERS", x.match(0, 3, 0), 1);
        x.line(3, 0b01);
        e.due("match(0, 3, 0) of LINES 1 and 3, alike", x.match(0, 3, 0), 1);
        x.line(3, 0b11);
        e.due("match(0, 3, 0), the last being better", x.match(0, 3, 0), 3);
        e.due("match(0, 3, 1), the last being better", x.match(0, 3, 1), 2 * 2360 - 40 * 666);
        e.at(34, "MATCH by the first n elements (1 to 40) of the ROW in SHELF s: the LINE (what 0), that least one (1).");
        x = strengths();
        e.due("match(0, 1, 1)", x.match(0, 1, 1), 2360 - 40 * 100);
        e.due("match(0, 2, 1)", x.match(0, 2, 1), 2360 - 40 * 100);
        e.due("match(0, 3, 1)", x.match(0, 3, 1), 2360 - 40 * 666);
        x.row(7, 3, 40);
        for (int i = 0; i < 40; i++) x.set(7, i, i == 39 ? 999 : 1);
        e.due("match(7, 39, 1)", x.match(7, 39, 1), 2360);
        e.due("match(7, 40, 1)", x.match(7, 40, 1), 2360 - 40 * 666);
        e.due("match(7, 40, 0)", x.match(7, 40, 0), 0);
        x.row(6, 4, 1);
        x.set(6, 0, 77);
        e.due("match(6, 1, 1) of a boolean, 1", x.match(6, 1, 1), 2360);
    }

    private void matchRefused() {
        e.at(34, "-1000000002 SHELF, n, what");
        e.refusedEach(EdgeThought::strengths, "match(#, 1, 0)", (y, v) -> y.match(v, 1, 0), NO_BAD, -1, 8, Edges.LOW, Edges.HIGH);
        for (int s : new int[] {0, 1, 7}) {
            e.refusedEach(EdgeThought::strengths, "match(" + s + ", #, 0)", (y, v) -> y.match(s, v, 0), NO_BAD, -1, 0, 41,
                Edges.LOW, Edges.HIGH);
            e.refusedEach(EdgeThought::strengths, "match(" + s + ", 1, #)", (y, v) -> y.match(s, 1, v), NO_BAD, -1, 2,
                Edges.LOW, Edges.HIGH);
        }
        e.at(34, "-1000000003");
        e.refusedEach(EdgeThought::strengths, "match(1, #, 0) of a PLAYER", (y, v) -> y.match(1, v, 0), Edges.NO + Edges.OTHER, 1, 40);
        e.refused(EdgeThought::strengthsOfNoLine, "match(1, 1, 1) of a PLAYER", y -> y.match(1, 1, 1), Edges.NO + Edges.OTHER);
        e.at(34, "-1000000004");
        e.refusedEach(EdgeThought::strengths, "match(7, #, 0) of NOTHING", (y, v) -> y.match(7, v, 0), Edges.NO + Edges.NOTHING, 1, 40);
        e.refused(EdgeThought::strengthsOfNoLine, "match(7, 1, 1) of NOTHING", y -> y.match(7, 1, 1), Edges.NO + Edges.NOTHING);
        e.at(34, "-1000000002: fewer elements, no strength (1 to 999)");
        e.refusedEach(EdgeThought::strengths, "match(0, #, 0): fewer elements, or a 0", (y, v) -> y.match(0, v, 0), NO_BAD, 4, 5, 40);
        e.refused(EdgeThought::strengths, "match(2, 1, 0): no elements", y -> y.match(2, 1, 0), NO_BAD);
        e.refused(() -> { OverTheBoards y = strengths(); y.set(0, 0, 0); return y; }, "match(0, 2, 0), the first a 0",
            y -> y.match(0, 2, 0), NO_BAD);
        for (long v : new long[] {-1, 0, 1000, Long.MIN_VALUE, Long.MAX_VALUE, (1L << 32) + 150}) {
            e.refused(() -> {
                OverTheBoards y = strengths();
                y.row(3, 3, 2);
                y.set(3, 0, 150);
                y.set(3, 1, v);
                return y;
            }, "match(3, 2, 0) of 150 and " + v, y -> y.match(3, 2, 0), NO_BAD);
        }
        e.refusedEach(EdgeThought::strengthsOfNoLine, "match(0, #, 0), no LINE having PLAYERS", (y, v) -> y.match(0, v, 0), NO_BAD, 4, 5);
        e.at(34, "-1000000005: no LINE has PLAYERS.");
        e.refusedEach(EdgeThought::strengthsOfNoLine, "match(0, #, 0)", (y, v) -> y.match(0, v, 0), NO_STUCK, 1, 2, 3);
        e.refused(EdgeThought::strengthsOfNoLine, "match(0, 1, 1)", y -> y.match(0, 1, 1), NO_STUCK);
    }

    private void pull() {
        e.at(0, "PULL for n SECONDS (0 to 600): the sum of ODDS ours with the KEEPER off less that with him on, less a told part (0 to 100) of 100 of the sum of ODDS against with him off less with him on (cut).");
        OverTheBoards x = one();
        for (int keeper = 1; keeper >= 0; keeper--) {
            x.ask(3, keeper);
            e.due("pull(1, 0), KEEPER " + keeper, x.pull(1, 0), 60);
            e.due("pull(1, 100), KEEPER " + keeper, x.pull(1, 100), 60 - 400);
            e.due("status(7)", x.status(7), keeper);
        }
        x.ask(2, 1);
        x.ask(0, 1);
        e.due("pull(1, 24): 24 of 100 of 4, cut, is 0", x.pull(1, 24), 40);
        e.due("pull(1, 25): 25 of 100 of 4 is 1", x.pull(1, 25), 39);
        e.due("pull(2, 49): 49 of 100 of 8, cut together, is 3", x.pull(2, 49), 80 - 3);
        e.at(35, "PULL.");
        x = one();
        e.due("pull(0, 0)", x.pull(0, 0), 0);
        e.due("pull(0, 100)", x.pull(0, 100), 0);
        e.due("pull(600, 0)", x.pull(600, 0), 36000);
        e.due("pull(600, 100)", x.pull(600, 100), 36000 - 240000);
        x.ask(2, 999);
        x.ask(0, 0);
        e.due("pull(600, 100) of the most", x.pull(600, 100), 12000 - 600 * 4 * 1998);
        e.due("pull(600, 99) of the most", x.pull(600, 99), 12000 - 6 * 99 * 4 * 1998);
        e.at(35, "-1000000002.");
        e.refusedEach(EdgeThought::one, "pull(#, 0)", (y, v) -> y.pull(v, 0), NO_BAD, NO_SECONDS);
        e.refusedEach(EdgeThought::one, "pull(0, #)", (y, v) -> y.pull(0, v), NO_BAD, -1, 101, Edges.LOW, Edges.HIGH);
    }

    private void spells(OverTheBoards x, String of, int... want) {
        for (int l = 0; l < 4; l++) e.due("minutes(" + l + ") of " + of, x.minutes(l), want[l]);
    }

    private void minutes() {
        e.at(0, "MINUTES: of all ways to share 8 spells of 40 SECONDS among the four LINES (those without PLAYERS: none) that with most GAINS: spells LINE by LINE, from 0 on, each LINE's one after the other, whistles between; of several the first (by rows of how many each has).");
        OverTheBoards x = one();
        spells(x, "LINE 0 alone", 8, 0, 0, 0);
        x.line(3, 1);
        x.line(0, 0);
        spells(x, "LINE 3 alone", 0, 0, 0, 8);
        x.tell(0, 1, 100);
        spells(x, "LINE 3 alone, though a rest would do it good", 0, 0, 0, 8);
        x.tell(0, 1, 0);
        x.line(2, 1);
        spells(x, "LINES 2 and 3, the same PLAYER", 0, 0, 0, 8);
        x.line(0, 1);
        x.line(1, 1);
        spells(x, "four LINES, the same PLAYER", 0, 0, 0, 8);
        // one is spent behind 50 SECONDS: so each has two spells at least, the first no more
        spells(two(), "two LINES", 2, 6, 0, 0);
        x = Check.from("player 0 50 0;player 0 50 0;player 0 50 0;player 0 50 0;line 0 0;line 1 1;line 2 2;line 3 3;third 2");
        spells(x, "four LINES", 2, 2, 2, 2);
        e.at(36, "MINUTES: GAINS (l NONE), how many spells LINE l has.");
        e.due("minutes(-1) of four LINES", x.minutes(-1), 4 * 2450 - 32000);
        e.due("minutes(-1) of one", one().minutes(-1), 2450 - 32000);
        e.due("minutes(0) of one", one().minutes(0), 8);
        e.due("minutes(3) of one", one().minutes(3), 0);
        e.at(36, "-1000000002");
        e.refusedEach(EdgeThought::two, "minutes(#)", (y, v) -> y.minutes(v), NO_BAD, -2, 4, Edges.LOW, Edges.HIGH);
        e.refusedEach(EdgeThought::noLine, "minutes(#), no LINE having PLAYERS", (y, v) -> y.minutes(v), NO_BAD, -2, 4);
        e.at(36, "-1000000005: no LINE has PLAYERS.");
        e.refusedEach(EdgeThought::noLine, "minutes(#)", (y, v) -> y.minutes(v), NO_STUCK, -1, 0, 3);
        e.refusedEach(OverTheBoards::new, "minutes(#)", (y, v) -> y.minutes(v), NO_STUCK, -1, 0, 3);
    }

    private void penalty() {
        e.at(0, "PENALTY: the PLAYER on the ICE without whom POWER is greatest, of several the first, goes off: who; GAINS of n SECONDS so.");
        OverTheBoards x = new OverTheBoards();
        for (int p = 0; p < 10; p++) x.player(0, 50, 0);
        x.line(0, 0b1111100000);
        x.whistle(0);
        e.due("penalty(-1) of five alike", x.penalty(-1), 5);
        x.tell(9, 0, 49);
        e.due("penalty(-1), the last the weakest", x.penalty(-1), 9);
        x.tell(0, 0, 1);
        e.due("penalty(-1), one off the ICE the weakest", x.penalty(-1), 9);
        for (int p = 5; p < 10; p++) x.tell(p, 1, 100);
        e.due("penalty(-1) of five spent ones", x.penalty(-1), 5);
        e.due("status(1): he stays", x.status(1), 0b1111100000);
        e.at(37, "PENALTY: who (n NONE), GAINS of n SECONDS (0 to 600).");
        x = one();
        e.due("penalty(-1) of one alone", x.penalty(-1), 0);
        e.due("penalty(0)", x.penalty(0), 0);
        e.due("penalty(1), nobody being left", x.penalty(1), -100);
        e.due("penalty(600), nobody being left", x.penalty(600), -60000);
        x = two();
        x.line(2, 0b11);
        x.whistle(2);
        e.due("penalty(600), one being left", x.penalty(600), 2450 - 60000);
        x.tell(1, 0, 40);
        x.whistle(0);
        x.ask(1, 1);
        e.due("change(2), PLAYER 1 COMING", x.change(2), 3);
        e.due("penalty(-1): he is missed least", x.penalty(-1), 1);
        e.due("penalty(600): he isn't COMING then", x.penalty(600), 2450 - 60000);
        x.player(0, 40, 0);
        x.line(2, 0b111);
        x.whistle(0);
        e.due("change(2), two COMING", x.change(2), 3);
        e.due("penalty(-1) of two COMING alike", x.penalty(-1), 1);
        // 49 and half of 39, 48 and half of 38 (38.4 cut), 47 and half of 37, 46 and 36
        int[] sums = {0, 136, 270, 400, 564};
        for (int n = 0; n < 5; n++) e.due("penalty(" + n + "): the other is COMING still", x.penalty(n), sums[n] - 100 * n);
        e.at(37, "-1000000002");
        e.refusedEach(EdgeThought::two, "penalty(#)", (y, v) -> y.penalty(v), NO_BAD, -2, 601, Edges.LOW, Edges.HIGH);
        e.refusedEach(EdgeThought::noLine, "penalty(#), nobody being on the ICE", (y, v) -> y.penalty(v), NO_BAD, -2, 601);
        e.at(37, "-1000000005: nobody is on the ICE.");
        e.refusedEach(EdgeThought::noLine, "penalty(#)", (y, v) -> y.penalty(v), NO_STUCK, -1, 0, 600);
        e.refusedEach(OverTheBoards::new, "penalty(#)", (y, v) -> y.penalty(v), NO_STUCK, -1, 0, 600);
    }
}
