/** Boundaries of promises 42 to 50, and of what Terms say of the truth: SECONDS, draws, games, what is kept. */
final class EdgeTruth {
    private static final String TWO = "player 0 50 0;player 0 50 0;line 0 0;line 1 1;on 0;third 2";
    private static final int NO_BAD = Edges.NO + Edges.BAD;
    private static final int NO_STUCK = Edges.NO + Edges.STUCK;
    private final Edges e;

    private EdgeTruth(Edges e) {
        this.e = e;
    }

    static void run(Edges e) {
        EdgeTruth t = new EdgeTruth(e);
        t.inTruth();
        t.draws();
        t.games();
        t.whistle();
        t.change();
        t.skate();
        t.game();
        t.pause();
        t.seed();
        t.image();
        t.back();
        t.status();
    }

    private static OverTheBoards two() {
        return Check.from(TWO);
    }

    private static OverTheBoards noLine() {
        return Check.from("player 0 50 0;player 3 60 0");
    }

    /** A SEED whose next one has these upper 16 bits. */
    private static int seedFor(int upper) {
        for (int v = 0; v < 10000000; v++) if (v * 1103515245 + 12345 >>> 16 == upper) return v;
        throw new IllegalStateException("no seed");
    }

    private static int after(int seed, int draws) {
        for (int i = 0; i < draws; i++) seed = seed * 1103515245 + 12345;
        return seed;
    }

    private void inTruth() {
        e.at(0, "IN TRUTH a SECOND: as in thought, SECOND is 1 more, MINUS 1 more, if somebody is COMING;");
        OverTheBoards x = two();
        x.ask(0, 0);
        e.due("change(1)", x.change(1), 3);
        for (int s = 1; s <= 5; s++) {
            x.seed(seedFor(49999));
            e.due("skate(1)", x.skate(1), 0);
            e.due("status(8)", x.status(8), s);
            e.due("status(9)", x.status(9), Math.min(3, s));
            e.due("playerOf(1, 3)", x.playerOf(1, 3), 2 * s);
            e.due("status(3)", x.status(3), Math.max(0, 3 - s));
        }
        e.at(0, "then a DRAW below 50,000: below ODDS ours a goal, else, if below ODDS ours and against together, one against; behind a goal THIRD is 1.");
        // behind a SECOND ODDS ours are 98, against 100
        int[][] drawn = {{0, 1, 0}, {97, 1, 0}, {98, 0, 1}, {197, 0, 1}, {198, 0, 0}, {32767, 0, 0}, {32768, 0, 0}, {49999, 0, 0},
            {50000, 1, 0}, {50097, 1, 0}, {50098, 0, 1}, {50197, 0, 1}, {50198, 0, 0}, {65535, 0, 0}};
        for (int[] d : drawn) {
            x = two();
            x.seed(seedFor(d[0]));
            e.due("skate(1), " + d[0] + " drawn", x.skate(1), d[1] + d[2]);
            e.due("status(10)", x.status(10), d[1]);
            e.due("status(11)", x.status(11), d[2]);
            e.due("status(4)", x.status(4), d[1] + d[2] == 0 ? 2 : 1);
        }
        x = new OverTheBoards();
        x.ask(2, 1);
        x.ask(0, 2);
        x.seed(seedFor(0));
        e.due("skate(1) without any ODDS, 0 drawn", x.skate(1), 0);
        x.ask(0, 0);
        x.seed(seedFor(1));
        e.due("skate(1), ODDS against 2, 1 drawn", x.skate(1), 1);
        e.due("status(4) behind one against", x.status(4), 1);
    }

    private void draws() {
        e.at(0, "A DRAW below n: SEED (1 at first) becomes SEED times 1103515245, and 12345 (an int, wrapping); its upper 16 bits, no sign, modulo n.");
        OverTheBoards x = new OverTheBoards();
        e.due("status(18)", x.status(18), 1);
        x.skate(1);
        e.due("status(18) behind a draw", x.status(18), 1103527590);
        x.skate(1);
        e.due("status(18), wrapped", x.status(18), after(1103527590, 1));
        for (int v : new int[] {0, -1, Edges.LOW, Edges.HIGH}) {
            x.seed(v);
            x.skate(1);
            e.due("status(18) behind a draw from " + v, x.status(18), after(v, 1));
        }
        int[][] thirds = {{0, 0}, {1, 1}, {2, 2}, {3, 0}, {32767, 1}, {32768, 2}, {65533, 1}, {65534, 2}, {65535, 0}};
        for (int[] t : thirds) {
            x = two();
            x.ask(2, 1);
            for (int p = 0; p < 2; p++) x.tell(p, 1, 100);
            x.seed(seedFor(t[0]));
            x.game(1);
            // THIRD stays as drawn, as there is no goal in the 20 SECONDS
            e.due("goals", x.status(10) + x.status(11), 0);
            e.due("THIRD by a draw of " + t[0], x.status(4), t[1]);
        }
    }

    private void games() {
        e.at(0, "A GAME by draws: n times: THIRD a DRAW below 3; a CHANGE to the LINE (of those with PLAYERS) whose PLAYERS are least TIRED together, of several the first; 20 SECONDS.");
        OverTheBoards x = Check.from("player 0 50 0;player 0 50 0;line 1 0;line 3 1");
        x.game(1);
        e.due("status(1): of several the first, with PLAYERS", x.status(1), 0b01);
        e.due("status(8)", x.status(8), 20);
        e.due("status(18): a draw, then 20", x.status(18), after(1, 21));
        x.game(1);
        e.due("status(1): the other is fresh", x.status(1), 0b10);
        e.due("status(18)", x.status(18), after(1, 42));
        x.tell(0, 1, 20);
        x.tell(1, 1, 20);
        x.game(1);
        e.due("status(1): alike, the first again", x.status(1), 0b01);
        x.tell(0, 1, 19);
        x.tell(1, 1, 20);
        int minus = x.status(9);
        x.game(1);
        e.due("status(1): who is on stays on", x.status(1), 0b01);
        e.due("status(9): nobody was COMING", x.status(9), minus);
    }

    private void whistle() {
        e.at(42, "A whistle in truth: just LINE l is on the ICE: its POWER.");
        OverTheBoards x = two();
        x.line(3, 0b11);
        x.ask(1, 1);
        x.change(1);
        e.due("whistle(1) while it is COMING", x.whistle(1), 50);
        e.due("status(1)", x.status(1), 0b10);
        e.due("status(2)", x.status(2), 0);
        e.due("status(3)", x.status(3), 0);
        e.due("whistle(3)", x.whistle(3), 100);
        e.due("status(1)", x.status(1), 0b11);
        e.due("whistle(0)", x.whistle(0), 50);
        e.due("status(1)", x.status(1), 0b01);
        e.due("whistle(0) again", x.whistle(0), 50);
        x.tell(0, 1, 100);
        e.due("whistle(0) of a spent one", x.whistle(0), 0);
        e.due("status(8): no SECOND goes by", x.status(8), 0);
        e.at(42, "BAD");
        e.refusedEach(EdgeTruth::two, "whistle(#)", (y, v) -> y.whistle(v), Edges.BAD, -1, 4, Edges.LOW, Edges.HIGH);
        e.at(42, "STUCK: it has no PLAYERS.");
        e.refusedEach(EdgeTruth::two, "whistle(#)", (y, v) -> y.whistle(v), Edges.STUCK, 2, 3);
        e.refusedEach(OverTheBoards::new, "whistle(#)", (y, v) -> y.whistle(v), Edges.STUCK, 0, 3);
    }

    private void change() {
        e.at(43, "A CHANGE on the fly begins in truth: its WAY (0: nobody is COMING).");
        OverTheBoards x = two();
        x.line(3, 0b11);
        e.due("change(0) to those who are on", x.change(0), 0);
        e.due("status(2)", x.status(2), 0);
        e.due("status(3)", x.status(3), 0);
        e.due("change(3), one of two is on", x.change(3), 1);
        e.due("status(1)", x.status(1), 0b11);
        e.due("status(2)", x.status(2), 0b10);
        e.due("status(3)", x.status(3), 1);
        e.due("change(3) while he is COMING", x.change(3), 0);
        e.due("status(2)", x.status(2), 0);
        e.due("status(3)", x.status(3), 0);
        e.due("change(1), the other leaving", x.change(1), 0);
        e.due("status(1)", x.status(1), 0b10);
        e.due("status(8): no SECOND goes by", x.status(8), 0);
        e.at(43, "BAD");
        e.refusedEach(EdgeTruth::two, "change(#)", (y, v) -> y.change(v), Edges.BAD, -1, 4, Edges.LOW, Edges.HIGH);
        e.at(43, "STUCK: it has no PLAYERS.");
        e.refusedEach(EdgeTruth::two, "change(#)", (y, v) -> y.change(v), Edges.STUCK, 2, 3);
        e.refusedEach(OverTheBoards::new, "change(#)", (y, v) -> y.change(v), Edges.STUCK, 0, 3);
    }

    private void skate() {
        e.at(44, "n SECONDS (1 to 300) in truth: how many goals, both together.");
        for (int n : new int[] {1, 299, 300}) {
            OverTheBoards x = two();
            int goals = x.skate(n);
            e.due("skate(" + n + ")", goals, x.status(10) + x.status(11));
            e.due("status(8)", x.status(8), n);
            e.due("status(18)", x.status(18), after(1, n));
        }
        OverTheBoards x = two();
        x.ask(3, 0);
        x.ask(2, 999);
        x.ask(0, 0);
        int ahead = x.skate(300);
        e.due("there were some goals", ahead > 1 ? 1 : 0, 1);
        e.due("skate(300) again: those of this call alone", x.skate(300), x.status(10) + x.status(11) - ahead);
        e.at(44, "BAD.");
        e.refusedEach(EdgeTruth::two, "skate(#)", (y, v) -> y.skate(v), Edges.BAD, -1, 0, 301, Edges.LOW, Edges.HIGH);
    }

    private void game() {
        e.at(45, "A GAME (n 1 to 20): goals ours less against in it.");
        for (int n : new int[] {1, 19, 20}) {
            OverTheBoards x = two();
            x.ask(2, 999);
            int lead = x.game(n);
            e.due("game(" + n + ")", lead, x.status(10) - x.status(11));
            e.due("status(8)", x.status(8), 20 * n);
            e.due("status(18)", x.status(18), after(1, 21 * n));
            int then = x.game(n);
            e.due("game(" + n + ") again: of this one alone", then, x.status(10) - x.status(11) - lead);
            if (n == 20) e.due("they lose", lead < 0 && then < 0 ? 1 : 0, 1);
        }
        e.at(45, "-1000000002");
        e.refusedEach(EdgeTruth::two, "game(#)", (y, v) -> y.game(v), NO_BAD, -1, 0, 21, Edges.LOW, Edges.HIGH);
        e.refusedEach(EdgeTruth::noLine, "game(#), no LINE having PLAYERS", (y, v) -> y.game(v), NO_BAD, -1, 0, 21);
        e.at(45, "-1000000005: no LINE has PLAYERS.");
        e.refusedEach(EdgeTruth::noLine, "game(#)", (y, v) -> y.game(v), NO_STUCK, 1, 20);
        e.refusedEach(OverTheBoards::new, "game(#)", (y, v) -> y.game(v), NO_STUCK, 1, 20);
    }

    private void pause() {
        e.at(46, "All TIRED is less by n (1 to 100), 0 at least (a break): how many are TIRED still.");
        OverTheBoards x = Check.from("player 0 50 0;player 3 50 0;player 1 50 0;player 0 50 0;line 0 0 1;on 0");
        int[] tired = {100, 99, 2, 1};
        for (int p = 0; p < 4; p++) x.tell(p, 1, tired[p]);
        e.due("pause(1)", x.pause(1), 3);
        int[] then = {99, 98, 1, 0};
        for (int p = 0; p < 4; p++) e.due("playerOf(" + p + ", 3)", x.playerOf(p, 3), then[p]);
        e.due("pause(98)", x.pause(98), 1);
        e.due("playerOf(0, 3)", x.playerOf(0, 3), 1);
        e.due("playerOf(1, 3)", x.playerOf(1, 3), 0);
        e.due("pause(100)", x.pause(100), 0);
        for (int p = 0; p < 4; p++) x.tell(p, 1, 100);
        e.due("pause(99)", x.pause(99), 4);
        for (int p = 0; p < 4; p++) x.tell(p, 1, 100);
        e.due("pause(100) of spent ones", x.pause(100), 0);
        for (int p = 0; p < 4; p++) e.due("playerOf(" + p + ", 3)", x.playerOf(p, 3), 0);
        e.due("pause(1) of fresh ones", x.pause(1), 0);
        e.due("pause(100) of nobody", new OverTheBoards().pause(100), 0);
        e.at(46, "BAD.");
        e.refusedEach(() -> Check.from(TWO + ";skate 9"), "pause(#)", (y, v) -> y.pause(v), Edges.BAD, -1, 0, 101, Edges.LOW, Edges.HIGH);
    }

    private void seed() {
        e.at(47, "SEED becomes v: the one ahead.");
        OverTheBoards x = new OverTheBoards();
        int ahead = 1;
        for (int v : new int[] {0, -1, Edges.LOW, Edges.HIGH, 1, 1}) {
            e.due("seed(" + v + ")", x.seed(v), ahead);
            e.due("status(18)", x.status(18), v);
            ahead = v;
        }
        for (int r = 12; r <= 16; r++) e.due("status(" + r + ")", x.status(r), 0);
    }

    private void image() {
        e.at(48, "All is kept, but THE TAPE, SHELVES and REFUSALS: 1.");
        OverTheBoards x = new OverTheBoards();
        e.due("image() of nobody", x.image(), 1);
        Check.rink(x, "player 0 50 0;line 0 0;on 0;half 1;third 0;theirs 9;skate 9");
        x.ask(3, 0);
        x.back();
        OverTheBoards fresh = new OverTheBoards();
        e.same("as of a new object", x, fresh);
        Check.rink(x, TWO + ";half 1;theirs 2;skate 50");
        x.ask(3, 0);
        x.tell(0, 0, 77);
        x.change(1);
        e.due("image() again", x.image(), 1);
        OverTheBoards like = Check.from(TWO + ";half 1;theirs 2;skate 50");
        like.ask(3, 0);
        like.tell(0, 0, 77);
        like.change(1);
        e.same("behind image()", x, like);
        Check.feed(x, "third");
        x.row(0, 2, 2);
        x.set(0, 1, 9);
        x.gains(601);
        x.skate(300);
        e.due("status(9) isn't as it was kept", x.status(9) == like.status(9) ? 1 : 0, 0);
        x.whistle(0);
        x.player(0, 1, 0);
        x.line(0, 0b110);
        x.seed(5);
        x.back();
        e.due("status(17), THE TAPE", x.status(17), 5);
        e.due("element(0, 1)", x.element(0, 1), 9);
        e.due("status(12)", x.status(12), 1);
        x.wipe();
        x.show(0, -1);
        e.same("as it was kept", x, like);
    }

    private void back() {
        e.at(49, "All is again as it was kept (SHELVES with PLAYERS hold those of the same numbers, or NOTHING): 1.");
        OverTheBoards x = two();
        x.show(0, 1);
        x.image();
        x.show(0, -1);
        x.player(0, 1, 0);
        for (int s = 1; s < 4; s++) x.show(s, s - 1);
        x.row(4, 0, 3);
        for (int round = 0; round < 2; round++) {
            e.due("back()", x.back(), 1);
            int[] holds = {-1, 10, 11, -1, 0, -1, -1, -1};
            for (int s = 0; s < 8; s++) e.due("holds(" + s + ")", x.holds(s), holds[s]);
            e.due("status(19)", x.status(19), 3);
            e.due("status(0)", x.status(0), 2);
        }
        for (int s = 0; s < 8; s++) x.show(s, x.player(0, 1, 0));
        e.due("status(19), all hold PLAYERS", x.status(19), 8);
        x.back();
        e.due("status(19), none of them was kept", x.status(19), 0);
        e.due("player() has the number again", x.player(5, 1, 0), 2);
        e.due("holds(3) of NOTHING still", x.holds(3), Edges.NONE);
        e.at(49, "STUCK: nothing was.");
        e.refused(OverTheBoards::new, "back()", OverTheBoards::back, Edges.STUCK);
        e.refused(EdgeTruth::two, "back()", OverTheBoards::back, Edges.STUCK);
        x = new OverTheBoards();
        x.back();
        x.image();
        e.due("back() behind image()", x.back(), 1);
    }

    private void status() {
        e.at(50, "PLAYERS (0), those on the ICE (1, bits), COMING (2, bits), SECONDS they are COMING still (3), THIRD (4), HALF (5), THEIRS (6), KEEPER (7), SECOND (8), MINUS (9), OURS (10), AGAINST (11);");
        OverTheBoards x = new OverTheBoards();
        int[] first = {0, 0, 0, 0, 1, 0, 150, 1, 0, 0, 0, 0, 0, 0, 0, 0, 0, 0, 1, 0};
        for (int i = 0; i < 20; i++) e.due("status(" + i + ") of a new object", x.status(i), first[i]);
        for (int p = 0; p < 10; p++) x.player(0, 99, 0);
        x.line(0, 0b1111100000);
        x.ask(1, 1);
        x.ask(0, 0);
        x.ask(3, 0);
        x.ask(2, 999);
        x.change(0);
        int[] most = {10, 0b1111100000, 0b1111100000, 5, 0, 1, 999, 0, 0, 0, 0, 0};
        for (int i = 0; i < 12; i++) e.due("status(" + i + ")", x.status(i), most[i]);
        e.at(50, "12 to 16: REFUSALS -2 to -6;");
        x.row(8, 0, 0);
        for (int i = 0; i < 2; i++) {
            x.show(0, 0);
            x.set(0, 0, 0);
        }
        for (int i = 0; i < 3; i++) x.set(1, 0, 0);
        for (int i = 0; i < 4; i++) x.whistle(3);
        for (int i = 0; i < 5; i++) x.player(0, 1, 0);
        for (int i = 0; i < 5; i++) e.due("status(" + (12 + i) + ")", x.status(12 + i), i + 1);
        x.gains(-1);
        e.due("status(12) behind one of GAINS", x.status(12), 2);
        x.rink();
        e.due("status(12) behind a FAULT", x.status(12), 3);
        e.at(50, "THE TAPE's size (17), SEED (18), SHELVES that hold something (19).");
        for (int i = 0; i < 250; i++) x.feed(0);
        x.seed(Edges.LOW);
        for (int s = 1; s < 8; s++) x.row(s, 0, 0);
        e.due("status(17)", x.status(17), 250);
        e.due("status(18)", x.status(18), Edges.LOW);
        e.due("status(19)", x.status(19), 8);
        e.at(50, "NONE another what.");
        x = new OverTheBoards();
        for (int what : new int[] {-1, 20, Edges.LOW, Edges.HIGH}) e.due("status(" + what + ")", x.status(what), Edges.NONE);
        for (int r = 12; r <= 16; r++) e.due("status(" + r + ")", x.status(r), 0);
    }
}
