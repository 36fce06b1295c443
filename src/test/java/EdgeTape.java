/** Boundaries of promises 13 to 15 and of a RINK's text, as Terms have it. */
final class EdgeTape {
    private static final String SIX =
        "player 0 60 0;player 1 80 2;player 2 50 7;player 3 95 1;player 4 70 0;player 5 66 3";
    private static final String BLANKS = " ".repeat(250);
    private final Edges e;

    private EdgeTape(Edges e) {
        this.e = e;
    }

    static void run(Edges e) {
        EdgeTape t = new EdgeTape(e);
        t.feed();
        t.wipe();
        t.rink();
        t.tokens();
        t.statements();
        t.lines();
        t.settings();
        t.allOrNothing();
        t.faults();
        t.endsTooEarly();
    }

    private static OverTheBoards six() {
        return Check.from(SIX + ";line 0 0 1;line 1 2 3;on 0;skate 3");
    }

    private static OverTheBoards fed(int bytes) {
        OverTheBoards x = new OverTheBoards();
        for (int i = 0; i < bytes; i++) x.feed(' ');
        return x;
    }

    private void reads(String text, int statements) {
        OverTheBoards x = six();
        e.due("rink() of '" + text + "'", Check.rink(x, text), statements);
        e.due("nothing is refused by '" + text + "'", x.status(12), 0);
    }

    private void fault(String text, int place) {
        e.refused(EdgeTape::six, "rink() of '" + text + "'", y -> Check.rink(y, text), -20 - place);
    }

    private void feed() {
        e.at(13, "THE TAPE gets one byte (0 to 255) behind it: its size.");
        OverTheBoards x = new OverTheBoards();
        e.due("feed(0)", x.feed(0), 1);
        e.due("feed(255)", x.feed(255), 2);
        for (int i = 3; i <= 250; i++) e.due("feed(1)", x.feed(1), i);
        e.at(13, "BAD");
        e.refusedEach(() -> fed(249), "feed(#)", (y, v) -> y.feed(v), Edges.BAD, -1, 256, Edges.LOW, Edges.HIGH);
        e.refusedEach(() -> fed(250), "feed(#), THE TAPE being full", (y, v) -> y.feed(v), Edges.BAD, -1, 256, Edges.LOW, Edges.HIGH);
        e.at(13, "FULL.");
        e.refusedEach(() -> fed(250), "feed(#), a byte too many", (y, v) -> y.feed(v), Edges.FULL, 0, 32, 255);
        x.wipe();
        e.due("feed(1) behind wipe()", x.feed(1), 1);
    }

    private void wipe() {
        e.at(14, "THE TAPE is empty: its size ahead.");
        OverTheBoards x = fed(250);
        e.due("wipe() of a full one", x.wipe(), 250);
        e.due("status(17)", x.status(17), 0);
        e.due("wipe() of an empty one", x.wipe(), 0);
        x.feed(59);
        e.due("wipe() of one byte", x.wipe(), 1);
        e.due("rink() of nothing", x.rink(), -20);
    }

    private void rink() {
        e.at(15, "THE TAPE is a RINK: how many STATEMENTS");
        reads("third 1", 1);
        reads("third 1;third 1", 2);
        reads("half 1;".repeat(34) + "half 1", 35);
        e.at(15, "-20 less the FAULT (that is refused, too: BAD)");
        fault("", 0);
        fault("!", 0);
        fault(BLANKS.substring(0, 249) + "x", 249);
        fault(BLANKS, 250);
        e.at(15, "THE TAPE is empty then, either way.");
        OverTheBoards x = new OverTheBoards();
        Check.rink(x, "half 1");
        e.due("status(17) behind a good one", x.status(17), 0);
        Check.rink(x, "half 2");
        e.due("status(17) behind a FAULT", x.status(17), 0);
        e.due("the next one begins anew", Check.rink(x, "half 0"), 1);
    }

    private void tokens() {
        e.at(0, "A RINK is read from THE TAPE (bytes, 250 at most).");
        reads(BLANKS.substring(0, 243) + "third 1", 1);
        reads("third 1" + BLANKS.substring(0, 243), 1);
        e.due("feed() of a byte too many", fed(250).feed(32), Edges.FULL);
        e.at(0, "TOKENS, each as long as can be: WORDS (a .. z), NUMBERS (digits), the SIGN ;");
        reads("third1;half0", 2);
        reads("player0 99 9", 1);
        fault("thirdd 1", 0);
        fault("azthird 1", 0);
        fault("thirdz 1", 0);
        fault("thirda 1", 0);
        fault("xhird 1", 0);
        fault("hird 1", 0);
        fault("thir 1", 0);
        fault("onhalf 1", 0);
        fault("third 11", 6);
        fault("player 0 999", 9);
        fault("`hird 1", 0);
        fault("{", 0);
        fault("/", 0);
        fault(":", 0);
        fault("third 1{", 7);
        fault("third 1`", 7);
        fault("third 1/", 7);
        fault("third 1:", 7);
        fault("Third 1", 0);
        e.at(0, "- blanks (32) may stand anywhere between.");
        reads("  third   1  ;  half   0  ", 2);
        reads("third 1;half 0", 2);
        fault("thi rd 1", 0);
        fault("skate 1 1", 8);
        fault("third" + (char) 9 + "1", 5);
        fault("third 1" + (char) 31, 7);
        fault("third 1" + (char) 33, 7);
        fault("third 1" + (char) 160, 7);
    }

    private void statements() {
        e.at(0, "STATEMENTS, one or more, with ; between: player K S A");
        OverTheBoards x = new OverTheBoards();
        e.due("the least of each", Check.rink(x, "player 0 1 0"), 1);
        e.due("the most of each", Check.rink(x, "player 5 99 9"), 1);
        int[][] want = {{0, 1, 0, 0, 0}, {5, 99, 9, 0, 0}};
        for (int p = 0; p < 2; p++) for (int w = 0; w < 5; w++) e.due("playerOf(" + p + ", " + w + ")", x.playerOf(p, w), want[p][w]);
        e.due("three digits", Check.rink(x, "player 005 099 009"), 1);
        e.due("up to ten", Check.rink(x, "player 0 1 0;".repeat(6) + "player 0 1 0"), 7);
        e.due("status(0)", x.status(0), 10);
        fault("", 0);
        fault(";", 0);
        fault("third 1;", 8);
        fault(";third 1", 0);
        fault("third 1;;third 1", 8);
        fault("third 1 third 1", 8);
        fault("player 6 50 0", 7);
        fault("player 0 0 0", 9);
        fault("player 0 100 0", 9);
        fault("player 0 50 10", 12);
        fault("player 0 50", 11);
        fault("player 0 50 ;", 12);
        fault("player 0 50 0 0", 14);
    }

    private void lines() {
        e.at(0, "line L P .. (1 to 5 PLAYERS, each once; L has just these)");
        OverTheBoards x = six();
        e.due("one PLAYER", Check.rink(x, "line 0 5"), 1);
        e.due("lineOf(0, 0)", x.lineOf(0, 0), 0b100000);
        e.due("five PLAYERS", Check.rink(x, "line 3 5 4 3 2 1"), 1);
        e.due("lineOf(3, 0)", x.lineOf(3, 0), 0b111110);
        e.due("two times", Check.rink(x, "line 3 1 2;line 3 000"), 2);
        e.due("lineOf(3, 0)", x.lineOf(3, 0), 1);
        e.due("one who has just come", Check.rink(x, "player 0 1 0;line 2 6"), 2);
        e.due("lineOf(2, 0)", x.lineOf(2, 0), 0b1000000);
        fault("line 4 0", 5);
        fault("line", 4);
        fault("line 0", 6);
        fault("line 0;", 6);
        fault("line 0 ;", 7);
        fault("line 0 on", 7);
        fault("line 0 6", 7);
        fault("line 0 5 6", 9);
        fault("line 0 6;player 0 1 0", 7);
        fault("line 0 0 0", 9);
        fault("line 0 1 2 3 4 1", 15);
        fault("line 0 0 00", 9);
        e.at(0, "on L (at a whistle: just LINE L is on the ICE)");
        x = six();
        x.change(1);
        e.due("on 1", Check.rink(x, "on 1"), 1);
        e.due("status(1)", x.status(1), 0b1100);
        e.due("status(2)", x.status(2), 0);
        e.due("status(3)", x.status(3), 0);
        e.due("a LINE of this RINK", Check.rink(x, "line 3 0;on 3"), 2);
        e.due("status(1)", x.status(1), 1);
        fault("on 4", 3);
        fault("on", 2);
        fault("on 0 1", 5);
    }

    private void settings() {
        e.at(0, "third N; half N; theirs N; skate N (1 to 99 SECONDS, in truth, draws too).");
        OverTheBoards x = six();
        e.due("the least", Check.rink(x, "third 0;half 0;theirs 1"), 3);
        int[] least = {0, 0, 1};
        for (int i = 0; i < 3; i++) e.due("status(" + (4 + i) + ")", x.status(4 + i), least[i]);
        e.due("the most", Check.rink(x, "third 2;half 1;theirs 999"), 3);
        int[] most = {2, 1, 999};
        for (int i = 0; i < 3; i++) e.due("status(" + (4 + i) + ")", x.status(4 + i), most[i]);
        for (int n : new int[] {1, 99}) {
            OverTheBoards read = six();
            OverTheBoards told = six();
            e.due("skate " + n, Check.rink(read, "skate " + n), 1);
            told.skate(n);
            e.same("behind skate " + n, read, told);
            e.due("status(8)", read.status(8), 3 + n);
        }
        fault("third 3", 6);
        fault("half 2", 5);
        fault("theirs 0", 7);
        fault("theirs 1000", 7);
        fault("skate 0", 6);
        fault("skate 100", 6);
        fault("third", 5);
        fault("half ;", 5);
        fault("theirs x", 7);
        fault("skate", 5);
    }

    private void allOrNothing() {
        e.at(0, "All comes to what there is, or nothing.");
        OverTheBoards x = six();
        e.due("all", Check.rink(x, "player 0 9 9;line 2 6;on 2;third 2;half 1;theirs 9;skate 1"), 7);
        int[] want = {7, 0b1000000, 0, 0, 2, 1, 9, 1, 4};
        for (int i = 0; i < want.length; i++) e.due("status(" + i + ")", x.status(i), want[i]);
        e.due("PLAYER 0 is there still", x.playerOf(0, 1), 60);
        fault("player 0 9 9;line 2 6;on 2;third 2;half 1;theirs 9;skate 99;on 3", 63);
        fault("player 0 9 9;line 0 6;on 0;third 2;half 1;theirs 9;skate 99;", 60);
        fault("line 1 0;on 1;skate 50;!", 23);
        OverTheBoards kept = six();
        kept.image();
        Check.rink(kept, "line 1 0;on 1;skate 50;!");
        e.due("back() behind a FAULT", kept.back(), 1);
        OverTheBoards other = six();
        e.same("as it was kept, a FAULT between", kept, other);
    }

    private void faults() {
        e.at(0, "The FAULT: the place of the first byte of the first TOKEN that can't stand there");
        fault("   fourth 1", 3);
        fault("third 1;  fourth 1;fifth 1", 10);
        fault("third   third", 8);
        fault("third ;", 6);
        fault("12", 0);
        fault("player player", 7);
        fault("skate 9 ; on on", 13);
        e.at(0, "(also a NUMBER that may not be, or has more than 3 digits;");
        fault("third   3", 8);
        fault("third 003", 6);
        fault("third 0001", 6);
        fault("player 0000 50 0", 7);
        fault("player 0 0050 0", 9);
        fault("player 0 50 0000", 12);
        fault("line 0000 0", 5);
        fault("line 0 0000", 7);
        fault("on 0000", 3);
        fault("skate 0099", 6);
        fault("theirs 99999999999999999999", 7);
        fault("third 4294967297", 6);
        reads("third 001", 1);
        e.at(0, "on of a LINE without PLAYERS: L;");
        fault("on 2", 3);
        fault("on   3", 5);
        fault("line 2 0;on 3", 12);
        e.at(0, "a sixth P;");
        fault("line 0 0 1 2 3 4 5", 17);
        fault("line 0 0 1 2 3 4  9", 18);
        fault("line 0 0 1 2 3 4 0", 17);
        reads("line 0 0 1 2 3 4", 1);
        e.at(0, "what there is no room for: its word;");
        String four = "player 0 1 0;player 0 1 0;player 0 1 0;player 0 1 0";
        reads(four, 4);
        fault(four + ";player 0 1 0", 52);
        fault(four + ";  player 0 1 0", 54);
        fault(four + ";player", 52);
        e.at(0, "a byte that begins none);");
        for (int b : new int[] {0, 31, 33, 47, 58, 60, 64, 91, 96, 123, 127, 128, 255}) {
            fault("third 1;" + (char) b, 8);
            fault("third " + (char) b, 6);
        }
    }

    private void endsTooEarly() {
        e.at(0, "THE TAPE's size, if it ends too early.");
        fault("", 0);
        fault(" ", 1);
        fault("player 0 50", 11);
        fault("player 0 50   ", 14);
        fault("line 0", 6);
        fault("line 0 ", 7);
        fault("on ", 3);
        fault("third 1;", 8);
        fault("third 1;   ", 11);
        fault("third 1;" + BLANKS.substring(0, 242), 250);
    }
}
