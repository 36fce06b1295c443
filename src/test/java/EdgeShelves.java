/** Boundaries of promises 1 to 8: a new object, ROWS and PLAYERS in SHELVES. */
final class EdgeShelves {
    private static final String KINDS = "player 0 60 0;player 1 80 2;player 2 50 7;player 3 95 1;player 4 70 0;player 5 66 3";
    private final Edges e;

    private EdgeShelves(Edges e) {
        this.e = e;
    }

    static void run(Edges e) {
        EdgeShelves t = new EdgeShelves(e);
        t.newObject();
        t.row();
        t.set();
        t.copy();
        t.copyRefused();
        t.element();
        t.holds();
        t.show();
        t.says();
        t.saysRefused();
    }

    /** SHELF 0: five ints 1 to 5; 1: PLAYER 0; 2: three ints; 3: five longs; the others NOTHING. */
    private static OverTheBoards shelves() {
        OverTheBoards x = Check.from("player 0 60 0");
        x.row(0, 2, 5);
        for (int i = 0; i < 5; i++) x.set(0, i, i + 1);
        x.show(1, 0);
        x.row(2, 2, 3);
        x.row(3, 3, 5);
        return x;
    }

    private void elements(OverTheBoards x, int s, String when, long... want) {
        for (int i = 0; i < want.length; i++) e.due("element(" + s + ", " + i + ") " + when, x.element(s, i), want[i]);
    }

    private void newObject() {
        OverTheBoards x = new OverTheBoards();
        e.at(1, "Nobody");
        e.due("status(0)", x.status(0), 0);
        e.due("status(1)", x.status(1), 0);
        e.due("status(2)", x.status(2), 0);
        e.due("five()", x.five(), Edges.STUCK);
        e.due("playerOf(0, 0)", x.playerOf(0, 0), Edges.BAD);
        for (int l = 0; l < 4; l++) e.due("lineOf(" + l + ", 0)", x.lineOf(l, 0), 0);
        e.at(1, "SHELVES hold NOTHING");
        for (int s = 0; s < 8; s++) {
            e.due("holds(" + s + ")", x.holds(s), Edges.NONE);
            e.due("set(" + s + ", 0, 1)", x.set(s, 0, 1), Edges.NOTHING);
        }
        e.due("status(19)", x.status(19), 0);
        e.at(1, "THE TAPE is empty.");
        e.due("status(17)", x.status(17), 0);
        e.due("wipe()", x.wipe(), 0);
        e.due("rink()", x.rink(), -20);
    }

    private void row() {
        e.at(2, "SHELF s holds a new ROW: 1.");
        OverTheBoards x = shelves();
        for (int s = 0; s < 8; s += 7) {
            for (int sort = 0; sort < 5; sort++) {
                for (int n = 0; n <= 40; n += 40) {
                    e.due("row(" + s + ", " + sort + ", " + n + ")", x.row(s, sort, n), 1);
                    e.due("holds(" + s + ")", x.holds(s), sort);
                    e.due("the last of " + n, x.set(s, n - 1, 1), n == 0 ? Edges.BAD : 1);
                    e.due("behind the last of " + n, x.set(s, n, 1), Edges.BAD);
                }
            }
        }
        e.due("row in place of a PLAYER", x.row(1, 0, 1), 1);
        e.due("holds(1)", x.holds(1), 0);
        x.row(2, 3, 40);
        for (int i = 0; i < 40; i++) x.set(2, i, -1 - i);
        e.due("row in place of a ROW of its SORT", x.row(2, 3, 40), 1);
        for (int i = 0; i < 40; i++) e.due("a new element " + i, x.element(2, i), 0);
        e.at(2, "BAD.");
        e.refusedEach(EdgeShelves::shelves, "row(#, 2, 1)", (y, v) -> y.row(v, 2, 1), Edges.BAD, -1, 8, Edges.LOW, Edges.HIGH);
        e.refusedEach(EdgeShelves::shelves, "row(0, #, 1)", (y, v) -> y.row(0, v, 1), Edges.BAD, -1, 5, Edges.LOW, Edges.HIGH);
        e.refusedEach(EdgeShelves::shelves, "row(0, 2, #)", (y, v) -> y.row(0, 2, v), Edges.BAD, -1, 41, Edges.LOW, Edges.HIGH);
    }

    private void set() {
        e.at(3, "Element i of the ROW in SHELF s becomes v: 1.");
        OverTheBoards x = shelves();
        e.due("set(0, 0, 77)", x.set(0, 0, 77), 1);
        e.due("set(0, 4, -77)", x.set(0, 4, -77), 1);
        elements(x, 0, "behind set", 77, 2, 3, 4, -77);
        x.row(7, 3, 40);
        e.due("set(7, 39, the least long)", x.set(7, 39, Long.MIN_VALUE), 1);
        e.due("element(7, 39)", x.element(7, 39), Long.MIN_VALUE);
        e.due("element(7, 38)", x.element(7, 38), 0);
        e.at(3, "BAD SHELF");
        e.refusedEach(EdgeShelves::shelves, "set(#, 0, 1)", (y, v) -> y.set(v, 0, 1), Edges.BAD, -1, 8, Edges.LOW, Edges.HIGH);
        e.at(3, "OTHER");
        e.refusedEach(EdgeShelves::shelves, "set(1, #, 1) of a PLAYER", (y, v) -> y.set(1, v, 1), Edges.OTHER, 0, -1, 40, Edges.LOW);
        e.at(3, "NOTHING");
        e.refusedEach(EdgeShelves::shelves, "set(7, #, 1) of NOTHING", (y, v) -> y.set(7, v, 1), Edges.NOTHING, 0, -1, 40, Edges.HIGH);
        e.at(3, "BAD i.");
        e.refusedEach(EdgeShelves::shelves, "set(0, #, 1)", (y, v) -> y.set(0, v, 1), Edges.BAD, -1, 5, 40, Edges.LOW, Edges.HIGH);
        e.refusedEach(() -> { OverTheBoards y = shelves(); y.row(0, 2, 0); return y; }, "set(0, #, 1) of no elements",
            (y, v) -> y.set(0, v, 1), Edges.BAD, -1, 0, 1);
    }

    private void copy() {
        e.at(4, "n elements of the ROW in SHELF p from place i on come to places j on of that in q (as they were): n.");
        OverTheBoards x = shelves();
        e.due("copy(0, 0, 0, 1, 4), upwards over itself", x.copy(0, 0, 0, 1, 4), 4);
        elements(x, 0, "as they were", 1, 1, 2, 3, 4);
        x = shelves();
        e.due("copy(0, 0, 1, 0, 4), downwards over itself", x.copy(0, 0, 1, 0, 4), 4);
        elements(x, 0, "as they were", 2, 3, 4, 5, 5);
        x = shelves();
        e.due("copy(0, 2, 2, 0, 3): the last of p, all of q", x.copy(0, 2, 2, 0, 3), 3);
        elements(x, 2, "behind copy", 3, 4, 5);
        e.due("copy(2, 0, 0, 2, 3): all of p, the last of q", x.copy(2, 0, 0, 2, 3), 3);
        elements(x, 0, "behind copy", 1, 2, 3, 4, 5);
        x.set(2, 2, 9);
        e.due("copy(0, 2, 4, 1, 1)", x.copy(0, 2, 4, 1, 1), 1);
        elements(x, 2, "behind copy", 3, 5, 9);
        e.due("copy(0, 2, 0, 0, 0)", x.copy(0, 2, 0, 0, 0), 0);
        e.due("copy(0, 2, 4, 2, 0)", x.copy(0, 2, 4, 2, 0), 0);
        elements(x, 2, "behind a copy of none", 3, 5, 9);
        e.due("copy(0, 0, 0, 0, 5) onto itself", x.copy(0, 0, 0, 0, 5), 5);
        elements(x, 0, "behind a copy onto itself", 1, 2, 3, 4, 5);
        x.row(4, 2, 40);
        x.row(5, 2, 40);
        for (int i = 0; i < 40; i++) x.set(4, i, i * i);
        e.due("copy(4, 5, 0, 0, 40)", x.copy(4, 5, 0, 0, 40), 40);
        for (int i = 0; i < 40; i++) e.due("element(5, " + i + ")", x.element(5, i), i * i);
        x.row(6, 2, 0);
        e.due("copy(6, 6, 0, 0, 0) of an empty ROW", x.copy(6, 6, 0, 0, 0), 0);
        for (int r = 12; r <= 16; r++) e.due("status(" + r + ")", x.status(r), 0);
    }

    private void copyRefused() {
        e.at(4, "BAD SHELVES");
        e.refusedEach(EdgeShelves::shelves, "copy(#, 1, 9, 9, 9)", (y, v) -> y.copy(v, 1, 9, 9, 9), Edges.BAD, -1, 8, Edges.LOW, Edges.HIGH);
        e.refusedEach(EdgeShelves::shelves, "copy(7, #, 9, 9, 9)", (y, v) -> y.copy(7, v, 9, 9, 9), Edges.BAD, -1, 8, Edges.LOW, Edges.HIGH);
        e.at(4, "OTHER (also ROWS of two SORTS, if both hold something)");
        e.refused(EdgeShelves::shelves, "copy of a PLAYER", y -> y.copy(1, 0, 9, 9, 9), Edges.OTHER);
        e.refused(EdgeShelves::shelves, "copy onto a PLAYER", y -> y.copy(0, 1, 9, 9, 9), Edges.OTHER);
        e.refused(EdgeShelves::shelves, "copy of a PLAYER onto itself", y -> y.copy(1, 1, 0, 0, 0), Edges.OTHER);
        e.refused(EdgeShelves::shelves, "copy of a PLAYER onto NOTHING", y -> y.copy(1, 7, 9, 9, 9), Edges.OTHER);
        e.refused(EdgeShelves::shelves, "copy of NOTHING onto a PLAYER", y -> y.copy(7, 1, 9, 9, 9), Edges.OTHER);
        e.refused(EdgeShelves::shelves, "copy of ints onto longs", y -> y.copy(0, 3, 9, 9, 9), Edges.OTHER);
        e.refused(EdgeShelves::shelves, "copy of longs onto ints", y -> y.copy(3, 0, 0, 0, 0), Edges.OTHER);
        e.at(4, "NOTHING");
        e.refused(EdgeShelves::shelves, "copy of NOTHING", y -> y.copy(7, 0, 9, 9, 9), Edges.NOTHING);
        e.refused(EdgeShelves::shelves, "copy onto NOTHING", y -> y.copy(0, 7, 9, 9, 9), Edges.NOTHING);
        e.refused(EdgeShelves::shelves, "copy of NOTHING onto NOTHING", y -> y.copy(7, 6, -1, -1, -1), Edges.NOTHING);
        e.refused(EdgeShelves::shelves, "copy of NOTHING onto itself", y -> y.copy(7, 7, 0, 0, 0), Edges.NOTHING);
        e.at(4, "BAD the others.");
        int[][] bad = {{-1, 0, 1}, {0, -1, 1}, {0, 0, -1}, {0, 0, 4}, {3, 0, 3}, {5, 0, 1}, {0, 1, 3}, {0, 3, 1}, {-1, 0, 0},
            {0, -1, 0}, {6, 0, 0}, {0, 4, 0}, {Edges.HIGH, 0, 1}, {0, Edges.HIGH, 1}, {1, 0, Edges.HIGH}, {0, 1, Edges.HIGH},
            {Edges.LOW, 0, 1}, {0, Edges.LOW, 1}, {0, 0, Edges.LOW}, {Edges.HIGH, Edges.HIGH, Edges.HIGH}};
        for (int[] b : bad) {
            String call = "copy(0, 2, " + b[0] + ", " + b[1] + ", " + b[2] + ")";
            e.refused(EdgeShelves::shelves, call, y -> y.copy(0, 2, b[0], b[1], b[2]), Edges.BAD);
        }
    }

    private void element() {
        e.at(5, "Element i of the ROW; 0: none, no ROW (nothing is refused).");
        OverTheBoards x = shelves();
        elements(x, 0, "of five", 1, 2, 3, 4, 5);
        int[][] none = {{0, 5}, {0, 39}, {0, 40}, {0, -1}, {0, Edges.LOW}, {0, Edges.HIGH}, {1, 0}, {7, 0}, {-1, 0}, {8, 0},
            {Edges.LOW, 0}, {Edges.HIGH, 0}};
        for (int[] n : none) e.due("element(" + n[0] + ", " + n[1] + ")", x.element(n[0], n[1]), 0);
        x.row(4, 3, 40);
        x.set(4, 39, 6);
        e.due("element(4, 39), the last of forty", x.element(4, 39), 6);
        e.due("element(4, 40), behind the last of forty", x.element(4, 40), 0);
        x.row(0, 2, 2);
        e.due("element(0, 4) of a shorter ROW", x.element(0, 4), 0);
        x.row(0, 2, 5);
        x.set(0, 0, 8);
        x.show(0, 0);
        e.due("element(0, 0) where a ROW was", x.element(0, 0), 0);
        x.show(0, -1);
        e.due("element(0, 0) where a ROW was", x.element(0, 0), 0);
        for (int r = 12; r <= 16; r++) e.due("status(" + r + ")", x.status(r), 0);
    }

    private void holds() {
        e.at(6, "What SHELF s holds: NONE NOTHING, no SHELF; 0 to 4 a ROW by its SORT; 10 and the number of a PLAYER.");
        OverTheBoards x = shelves();
        for (int i = 1; i < 10; i++) x.player(0, 1, 0);
        for (int s : new int[] {-1, 4, 7, 8, Edges.LOW, Edges.HIGH}) e.due("holds(" + s + ")", x.holds(s), Edges.NONE);
        for (int sort = 0; sort < 5; sort++) {
            x.row(7, sort, 0);
            e.due("holds(7), an empty ROW", x.holds(7), sort);
        }
        e.due("holds(1)", x.holds(1), 10);
        x.show(7, 9);
        e.due("holds(7)", x.holds(7), 19);
        x.show(7, -1);
        e.due("holds(7)", x.holds(7), Edges.NONE);
        for (int r = 12; r <= 16; r++) e.due("status(" + r + ")", x.status(r), 0);
    }

    private void show() {
        e.at(7, "SHELF s holds a PLAYER, or NOTHING (player NONE): 1.");
        OverTheBoards x = Check.from(KINDS + ";player 0 1 0;player 0 1 0;player 0 1 0;player 0 1 0");
        e.due("show(0, 0)", x.show(0, 0), 1);
        e.due("show(7, 9)", x.show(7, 9), 1);
        e.due("show(6, 9), the same PLAYER", x.show(6, 9), 1);
        e.due("holds(0)", x.holds(0), 10);
        e.due("holds(7)", x.holds(7), 19);
        e.due("holds(6)", x.holds(6), 19);
        e.due("show(7, -1)", x.show(7, -1), 1);
        e.due("show(7, -1) of NOTHING", x.show(7, -1), 1);
        e.due("holds(7)", x.holds(7), Edges.NONE);
        x.row(5, 0, 3);
        e.due("show(5, -1) of a ROW", x.show(5, -1), 1);
        e.due("holds(5)", x.holds(5), Edges.NONE);
        e.due("status(19)", x.status(19), 2);
        e.at(7, "BAD.");
        e.refused(OverTheBoards::new, "show(0, 0) of nobody", y -> y.show(0, 0), Edges.BAD);
        e.refusedEach(EdgeShelves::shelves, "show(0, #)", (y, v) -> y.show(0, v), Edges.BAD, -2, 1, 10, Edges.LOW, Edges.HIGH);
        e.refusedEach(EdgeShelves::shelves, "show(#, 0)", (y, v) -> y.show(v, 0), Edges.BAD, -1, 8, Edges.LOW, Edges.HIGH);
        e.refusedEach(EdgeShelves::shelves, "show(#, -1)", (y, v) -> y.show(v, -1), Edges.BAD, -1, 8, Edges.LOW, Edges.HIGH);
    }

    /** SHELVES 0 to 5 hold PLAYERS of KINDS 0 to 5, 6 a ROW, 7 NOTHING. */
    private static OverTheBoards kinds() {
        OverTheBoards x = Check.from(KINDS);
        for (int p = 0; p < 6; p++) x.show(p, p);
        x.row(6, 0, 1);
        return x;
    }

    private void says() {
        e.at(8, "What the PLAYER in SHELF s, taken for one of a KIND, says: PLAYER its LEGS");
        int[] skills = {60, 80, 50, 95, 70, 66};
        OverTheBoards x = kinds();
        for (int p = 0; p < 6; p++) {
            e.due("says(" + p + ", 0)", x.says(p, 0), skills[p]);
            x.tell(p, 1, 99);
            e.due("says(" + p + ", 0) at TIRED 99", x.says(p, 0), 0);
            x.tell(p, 1, 100);
            e.due("says(" + p + ", 0) at TIRED 100", x.says(p, 0), 0);
        }
        e.at(8, "LATE, STAR how much more TIRED a SECOND on the ICE makes it");
        x = kinds();
        e.due("says(1, 1)", x.says(1, 1), 3);
        e.due("says(3, 1)", x.says(3, 1), 3);
        e.due("says(3, 3)", x.says(3, 3), 3);
        e.at(8, "EARLY its POWER");
        e.due("says(2, 2)", x.says(2, 2), 57);
        x.tell(2, 1, 9);
        e.due("says(2, 2) at TIRED 9", x.says(2, 2), 45 + 7);
        x.tell(2, 1, 10);
        e.due("says(2, 2) at TIRED 10", x.says(2, 2), 45);
        e.at(8, "DEEP 1 if it is on the ICE, else 0");
        e.due("says(4, 4)", x.says(4, 4), 0);
        e.due("says(5, 4)", x.says(5, 4), 0);
        x.line(0, 0b110000);
        x.change(0);
        e.due("says(4, 4) of one who is COMING", x.says(4, 4), 1);
        e.due("says(5, 4) of one who is COMING", x.says(5, 4), 1);
        e.at(8, "CALLER how many others are on the ICE.");
        e.due("says(5, 5)", x.says(5, 5), 1);
        x.line(0, 0b100000);
        x.whistle(0);
        e.due("says(5, 5), alone", x.says(5, 5), 0);
        x.line(0, 0b111110);
        x.whistle(0);
        e.due("says(5, 5), five on the ICE, it too", x.says(5, 5), 4);
        x.line(0, 0b011111);
        x.whistle(0);
        e.due("says(5, 5), five on the ICE, it not", x.says(5, 5), 5);
        e.due("says(5, 5) of a new rink", kinds().says(5, 5), 0);
    }

    private void saysRefused() {
        e.at(8, "BAD SHELF, KIND");
        e.refusedEach(EdgeShelves::kinds, "says(#, 0)", (y, v) -> y.says(v, 0), Edges.BAD, -1, 8, Edges.LOW, Edges.HIGH);
        for (int s : new int[] {0, 6, 7}) {
            e.refusedEach(EdgeShelves::kinds, "says(" + s + ", #)", (y, v) -> y.says(s, v), Edges.BAD, -1, 6, Edges.LOW, Edges.HIGH);
        }
        e.at(8, "OTHER (also if it is of no such KIND nor of one under it)");
        e.refusedEach(EdgeShelves::kinds, "says(6, #) of a ROW", (y, v) -> y.says(6, v), Edges.OTHER, 0, 1, 2, 3, 4, 5);
        e.refusedEach(EdgeShelves::kinds, "says(0, #) of a PLAYER", (y, v) -> y.says(0, v), Edges.OTHER, 1, 2, 3, 4, 5);
        e.refusedEach(EdgeShelves::kinds, "says(1, #) of LATE", (y, v) -> y.says(1, v), Edges.OTHER, 2, 3, 4, 5);
        e.refusedEach(EdgeShelves::kinds, "says(2, #) of EARLY", (y, v) -> y.says(2, v), Edges.OTHER, 1, 3, 4, 5);
        e.refusedEach(EdgeShelves::kinds, "says(3, #) of STAR", (y, v) -> y.says(3, v), Edges.OTHER, 2, 4, 5);
        e.refusedEach(EdgeShelves::kinds, "says(4, #) of DEEP", (y, v) -> y.says(4, v), Edges.OTHER, 1, 2, 3, 5);
        e.refusedEach(EdgeShelves::kinds, "says(5, #) of CALLER", (y, v) -> y.says(5, v), Edges.OTHER, 1, 2, 3);
        e.at(8, "NOTHING.");
        e.refusedEach(EdgeShelves::kinds, "says(7, #) of NOTHING", (y, v) -> y.says(7, v), Edges.NOTHING, 0, 1, 2, 3, 4, 5);
    }
}
