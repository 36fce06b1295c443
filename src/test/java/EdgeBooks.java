/** Boundaries of promises 38 and 39, and of what Terms say of BOOKS. */
final class EdgeBooks {
    private final Edges e;

    private EdgeBooks(Edges e) {
        this.e = e;
    }

    static void run(Edges e) {
        EdgeBooks t = new EdgeBooks(e);
        t.wrong();
        t.judge();
        t.judgeRefused();
        t.longOf();
        t.cost();
        t.booked();
        t.bookedRefused();
    }

    /** SHELF 0: LINES 0, 0, 1, 0, 3; 1: PLAYER 0; 2: no elements; 7: NOTHING. LINES 2 and 3 have no PLAYERS. */
    private static OverTheBoards book() {
        OverTheBoards x = Check.from("player 0 50 0;player 3 50 0;player 0 50 0;line 0 0;line 1 1");
        x.row(0, 3, 5);
        x.set(0, 2, 1);
        x.set(0, 4, 3);
        x.show(1, 0);
        x.row(2, 3, 0);
        return x;
    }

    private static OverTheBoards of(long... lines) {
        OverTheBoards x = book();
        x.row(0, 3, lines.length);
        for (int i = 0; i < lines.length; i++) x.set(0, i, lines[i]);
        return x;
    }

    private void wrong() {
        e.at(0, "A told BOOK: a ROW of LINES, one each 20 SECONDS, whistles between: WRONG: the first that isn't there or has no PLAYERS; NONE.");
        e.due("judge of 0, 1", of(0, 1).judge(0, 2), Edges.NONE);
        for (long w : new long[] {-1, 2, 3, 4, Long.MIN_VALUE, Long.MAX_VALUE, 1L << 32, (1L << 32) + 1}) {
            e.due("judge of " + w, of(w).judge(0, 1), 0);
            e.due("judge of 0, 1, " + w, of(0, 1, w).judge(0, 3), 2);
            e.due("judge of " + w + ", 0, " + w, of(w, 0, w).judge(0, 3), 0);
        }
    }

    private void judge() {
        e.at(38, "A told BOOK of the first n elements (0 to 40) of the ROW in SHELF s: WRONG; NONE.");
        OverTheBoards x = book();
        e.due("judge(0, 0)", x.judge(0, 0), Edges.NONE);
        e.due("judge(2, 0) of no elements", x.judge(2, 0), Edges.NONE);
        e.due("judge(0, 4)", x.judge(0, 4), Edges.NONE);
        e.due("judge(0, 5)", x.judge(0, 5), 4);
        x.row(7, 0, 40);
        e.due("judge(7, 40) of forty", x.judge(7, 40), Edges.NONE);
        x.set(7, 39, 2);
        e.due("judge(7, 39), the fortieth WRONG", x.judge(7, 39), Edges.NONE);
        e.due("judge(7, 40), the fortieth WRONG", x.judge(7, 40), 39);
        x.row(7, 4, 2);
        x.set(7, 1, 5);
        e.due("judge(7, 2) of booleans, 0 and 1", x.judge(7, 2), Edges.NONE);
        x.line(1, 0);
        e.due("judge(7, 2), LINE 1 without PLAYERS now", x.judge(7, 2), 1);
    }

    private void judgeRefused() {
        e.at(38, "BAD SHELF, n");
        e.refusedEach(EdgeBooks::book, "judge(#, 0)", (y, v) -> y.judge(v, 0), Edges.BAD, -1, 8, Edges.LOW, Edges.HIGH);
        for (int s : new int[] {0, 1, 7}) {
            e.refusedEach(EdgeBooks::book, "judge(" + s + ", #)", (y, v) -> y.judge(s, v), Edges.BAD, -1, 41, Edges.LOW, Edges.HIGH);
        }
        e.at(38, "OTHER");
        e.refusedEach(EdgeBooks::book, "judge(1, #) of a PLAYER", (y, v) -> y.judge(1, v), Edges.OTHER, 0, 40);
        e.at(38, "NOTHING");
        e.refusedEach(EdgeBooks::book, "judge(7, #) of NOTHING", (y, v) -> y.judge(7, v), Edges.NOTHING, 0, 40);
        e.at(38, "BAD: fewer elements.");
        e.refusedEach(EdgeBooks::book, "judge(0, #) of five", (y, v) -> y.judge(0, v), Edges.BAD, 6, 40);
        e.refusedEach(EdgeBooks::book, "judge(2, #) of none", (y, v) -> y.judge(2, v), Edges.BAD, 1, 40);
    }

    private void longOf() {
        e.at(0, "LONG of a PLAYER: the most SECONDS one after the other it is on by it.");
        int[][] want = {{0, 0, 0}, {1, 20, 0}, {2, 40, 0}, {3, 40, 20}, {4, 40, 20}};
        for (int[] w : want) {
            for (int p = 0; p < 2; p++) e.due("booked(0, " + w[0] + ", " + p + ", 0)", book().booked(0, w[0], p, 0), w[1 + p]);
            e.due("booked(0, " + w[0] + ", 2, 0) of one in no LINE", book().booked(0, w[0], 2, 0), 0);
        }
        e.due("LONG, the longest the last", of(0, 1, 0, 0, 0).booked(0, 5, 0, 0), 60);
        e.due("LONG, the longest the first", of(0, 0, 0, 1, 0).booked(0, 5, 0, 0), 60);
        OverTheBoards x = of(0, 1, 0, 1);
        x.line(1, 0b11);
        e.due("LONG of one in both LINES", x.booked(0, 4, 0, 0), 80);
        e.due("LONG of one in one of them", x.booked(0, 4, 1, 0), 20);
    }

    private void cost() {
        e.at(0, "COST: SKILL less LEGS behind it, if TIRED were 0 ahead.");
        OverTheBoards x = of(0, 0, 0, 1, 1);
        x.tell(0, 1, 100);
        x.tell(1, 1, 100);
        int[][] want = {{0, 0, 0}, {1, 20, 0}, {2, 40, 0}, {3, 50, 0}, {4, 40, 30}, {5, 30, 50}};
        for (int[] w : want) {
            for (int p = 0; p < 2; p++) e.due("booked(0, " + w[0] + ", " + p + ", 1)", x.booked(0, w[0], p, 1), w[1 + p]);
        }
        e.due("playerOf(0, 3)", x.playerOf(0, 3), 100);
        x = of(1, 1, 0, 0);
        e.due("COST of a STAR who rests", x.booked(0, 4, 1, 1), 10);
        x.whistle(0);
        e.due("COST of one who is on the ICE ahead", x.booked(0, 2, 0, 1), 0);
    }

    private void booked() {
        e.at(39, "LONG (what 0), COST (1) of a PLAYER by it.");
        OverTheBoards x = book();
        for (int what = 0; what < 2; what++) {
            e.due("booked(0, 0, 0, " + what + ")", x.booked(0, 0, 0, what), 0);
            e.due("booked(2, 0, 2, " + what + ") of no elements", x.booked(2, 0, 2, what), 0);
        }
        x.row(7, 0, 40);
        e.due("booked(7, 40, 0, 0)", x.booked(7, 40, 0, 0), 800);
        e.due("booked(7, 40, 0, 1)", x.booked(7, 40, 0, 1), 50);
        x.set(7, 39, 1);
        e.due("booked(7, 40, 0, 0), off at last", x.booked(7, 40, 0, 0), 780);
        e.due("booked(7, 40, 0, 1), off at last", x.booked(7, 40, 0, 1), 40);
    }

    private void bookedRefused() {
        e.at(39, "BAD, also what, the PLAYER");
        e.refusedEach(EdgeBooks::book, "booked(#, 0, 0, 0)", (y, v) -> y.booked(v, 0, 0, 0), Edges.BAD, -1, 8, Edges.LOW, Edges.HIGH);
        for (int s : new int[] {0, 1, 7}) {
            e.refusedEach(EdgeBooks::book, "booked(" + s + ", #, 0, 0)", (y, v) -> y.booked(s, v, 0, 0), Edges.BAD, -1, 41,
                Edges.LOW, Edges.HIGH);
            e.refusedEach(EdgeBooks::book, "booked(" + s + ", 0, #, 0)", (y, v) -> y.booked(s, 0, v, 0), Edges.BAD, -1, 3, 10,
                Edges.LOW, Edges.HIGH);
            e.refusedEach(EdgeBooks::book, "booked(" + s + ", 0, 0, #)", (y, v) -> y.booked(s, 0, 0, v), Edges.BAD, -1, 2,
                Edges.LOW, Edges.HIGH);
        }
        e.refused(EdgeBooks::book, "booked(0, 5, 3, 0), WRONG too", y -> y.booked(0, 5, 3, 0), Edges.BAD);
        e.at(39, "OTHER");
        e.refusedEach(EdgeBooks::book, "booked(1, #, 0, 0) of a PLAYER", (y, v) -> y.booked(1, v, 0, 0), Edges.OTHER, 0, 40);
        e.at(39, "NOTHING; BAD;");
        e.refusedEach(EdgeBooks::book, "booked(7, #, 0, 1) of NOTHING", (y, v) -> y.booked(7, v, 0, 1), Edges.NOTHING, 0, 40);
        e.refusedEach(EdgeBooks::book, "booked(0, #, 0, 0) of five", (y, v) -> y.booked(0, v, 0, 0), Edges.BAD, 6, 40);
        e.refusedEach(EdgeBooks::book, "booked(2, #, 0, 1) of none", (y, v) -> y.booked(2, v, 0, 1), Edges.BAD, 1, 40);
        e.at(39, "STUCK: it is WRONG.");
        e.refusedEach(EdgeBooks::book, "booked(0, 5, 0, #)", (y, v) -> y.booked(0, 5, 0, v), Edges.STUCK, 0, 1);
        e.refusedEach(() -> of(-1), "booked(0, 1, 0, #)", (y, v) -> y.booked(0, 1, 0, v), Edges.STUCK, 0, 1);
        e.refusedEach(() -> of(0, 1L << 32), "booked(0, 2, 0, #)", (y, v) -> y.booked(0, 2, 0, v), Edges.STUCK, 0, 1);
    }
}
