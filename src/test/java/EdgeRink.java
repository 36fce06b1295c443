/** Boundaries of promises 9 to 12, 16 to 20, 27, 40 and 41: PLAYERS and LINES, and how things stand. */
final class EdgeRink {
    private static final String SIX =
        "player 0 60 0;player 1 80 2;player 2 50 7;player 3 95 1;player 4 70 0;player 5 66 3";
    private final Edges e;

    private EdgeRink(Edges e) {
        this.e = e;
    }

    static void run(Edges e) {
        EdgeRink t = new EdgeRink(e);
        t.player();
        t.tell();
        t.line();
        t.ask();
        t.playerOf();
        t.lineOf();
        t.power();
        t.odds();
        t.way();
        t.five();
        t.best();
        t.rests();
    }

    private static OverTheBoards six() {
        return Check.from(SIX + ";line 0 0 2 5;line 1 1 3;on 0;skate 3");
    }

    private static OverTheBoards ten() {
        OverTheBoards x = new OverTheBoards();
        for (int p = 0; p < 10; p++) x.player(0, 50, 0);
        return x;
    }

    private void player() {
        e.at(9, "A PLAYER: the number.");
        OverTheBoards x = new OverTheBoards();
        int[][] first = {{0, 1, 0}, {5, 99, 9}, {1, 99, 0}, {2, 1, 9}, {3, 50, 5}, {4, 2, 8}};
        for (int p = 0; p < 10; p++) {
            int[] f = first[p % 6];
            e.due("player number " + p, x.player(f[0], f[1], f[2]), p);
            for (int w = 0; w < 3; w++) e.due("playerOf(" + p + ", " + w + ")", x.playerOf(p, w), f[w]);
            e.due("status(0)", x.status(0), p + 1);
        }
        e.at(9, "BAD");
        for (int round = 0; round < 2; round++) {
            // behind the tenth PLAYER it is BAD still, which stands ahead of FULL
            boolean isFull = round == 1;
            java.util.function.Supplier<OverTheBoards> maker = isFull ? EdgeRink::ten : OverTheBoards::new;
            e.refusedEach(maker, "player(#, 1, 0)", (y, v) -> y.player(v, 1, 0), Edges.BAD, -1, 6, Edges.LOW, Edges.HIGH);
            e.refusedEach(maker, "player(0, #, 0)", (y, v) -> y.player(0, v, 0), Edges.BAD, -1, 0, 100, Edges.LOW, Edges.HIGH);
            e.refusedEach(maker, "player(0, 1, #)", (y, v) -> y.player(0, 1, v), Edges.BAD, -1, 10, Edges.LOW, Edges.HIGH);
        }
        e.at(9, "FULL.");
        e.refused(EdgeRink::ten, "an eleventh player", y -> y.player(0, 1, 0), Edges.FULL);
        e.refused(EdgeRink::ten, "an eleventh player", y -> y.player(5, 99, 9), Edges.FULL);
    }

    private void tell() {
        e.at(10, "SKILL (what 0), TIRED (1) of a PLAYER becomes v: what it was.");
        OverTheBoards x = ten();
        e.due("tell(0, 0, 1)", x.tell(0, 0, 1), 50);
        e.due("tell(0, 0, 99)", x.tell(0, 0, 99), 1);
        e.due("playerOf(0, 1)", x.playerOf(0, 1), 99);
        e.due("tell(9, 1, 100)", x.tell(9, 1, 100), 0);
        e.due("tell(9, 1, 0)", x.tell(9, 1, 0), 100);
        e.due("tell(9, 1, 0) again", x.tell(9, 1, 0), 0);
        e.due("tell(9, 1, 1)", x.tell(9, 1, 1), 0);
        e.due("playerOf(9, 3)", x.playerOf(9, 3), 1);
        e.due("playerOf(9, 1)", x.playerOf(9, 1), 50);
        e.at(10, "BAD.");
        e.refused(OverTheBoards::new, "tell(0, 0, 1) of nobody", y -> y.tell(0, 0, 1), Edges.BAD);
        e.refusedEach(EdgeRink::six, "tell(#, 0, 1)", (y, v) -> y.tell(v, 0, 1), Edges.BAD, -1, 6, Edges.LOW, Edges.HIGH);
        e.refusedEach(EdgeRink::ten, "tell(#, 1, 1)", (y, v) -> y.tell(v, 1, 1), Edges.BAD, -1, 10);
        e.refusedEach(EdgeRink::six, "tell(0, #, 1)", (y, v) -> y.tell(0, v, 1), Edges.BAD, -1, 2, Edges.LOW, Edges.HIGH);
        e.refusedEach(EdgeRink::six, "tell(0, 0, #)", (y, v) -> y.tell(0, 0, v), Edges.BAD, -1, 0, 100, Edges.LOW, Edges.HIGH);
        e.refusedEach(EdgeRink::six, "tell(0, 1, #)", (y, v) -> y.tell(0, 1, v), Edges.BAD, -1, 101, Edges.LOW, Edges.HIGH);
    }

    private void line() {
        e.at(11, "LINE l (0 to 3) has just the PLAYERS of a set (bits; 5 at most, perhaps none): which it had.");
        OverTheBoards x = ten();
        e.due("line(0, five)", x.line(0, 0b1111100000), 0);
        e.due("line(3, the tenth)", x.line(3, 0b1000000000), 0);
        e.due("line(0, one)", x.line(0, 1), 0b1111100000);
        e.due("line(0, the same)", x.line(0, 1), 1);
        e.due("line(0, none)", x.line(0, 0), 1);
        e.due("line(0, none) again", x.line(0, 0), 0);
        e.due("lineOf(0, 0)", x.lineOf(0, 0), 0);
        e.due("lineOf(3, 0)", x.lineOf(3, 0), 0b1000000000);
        e.due("line(1, 0) of nobody", new OverTheBoards().line(1, 0), 0);
        x = six();
        x.line(0, 0);
        e.due("status(1): who is on the ICE stays", x.status(1), 0b100101);
        e.at(11, "BAD.");
        e.refusedEach(EdgeRink::six, "line(#, 1)", (y, v) -> y.line(v, 1), Edges.BAD, -1, 4, Edges.LOW, Edges.HIGH);
        e.refusedEach(EdgeRink::six, "line(0, #)", (y, v) -> y.line(0, v), Edges.BAD, -1, Edges.LOW, Edges.HIGH, 0b1000000,
            0b1000001, 0b111111, Edges.LOW | 1, 1 << 16);
        e.refusedEach(EdgeRink::ten, "line(0, #)", (y, v) -> y.line(0, v), Edges.BAD, -1, 1 << 10, 0b1111110000, 0b1111111111);
        e.refused(OverTheBoards::new, "line(0, 1) of nobody", y -> y.line(0, 1), Edges.BAD);
    }

    private void ask() {
        e.at(12, "THIRD (what 0), HALF (1), THEIRS (2), KEEPER (3; 1 on, 0 off) becomes v: what it was.");
        OverTheBoards x = new OverTheBoards();
        int[][] asked = {{0, 0, 1}, {0, 2, 0}, {0, 2, 2}, {1, 1, 0}, {1, 0, 1}, {2, 1, 150}, {2, 999, 1}, {2, 7, 999}, {3, 0, 1},
            {3, 1, 0}, {3, 1, 1}};
        for (int[] a : asked) {
            e.due("ask(" + a[0] + ", " + a[1] + ")", x.ask(a[0], a[1]), a[2]);
            e.due("status(" + (4 + a[0]) + ")", x.status(4 + a[0]), a[1]);
        }
        e.at(12, "BAD.");
        e.refusedEach(EdgeRink::six, "ask(#, 1)", (y, v) -> y.ask(v, 1), Edges.BAD, -1, 4, Edges.LOW, Edges.HIGH);
        e.refusedEach(EdgeRink::six, "ask(0, #)", (y, v) -> y.ask(0, v), Edges.BAD, -1, 3, Edges.LOW, Edges.HIGH);
        e.refusedEach(EdgeRink::six, "ask(1, #)", (y, v) -> y.ask(1, v), Edges.BAD, -1, 2, Edges.LOW, Edges.HIGH);
        e.refusedEach(EdgeRink::six, "ask(2, #)", (y, v) -> y.ask(2, v), Edges.BAD, -1, 0, 1000, Edges.LOW, Edges.HIGH);
        e.refusedEach(EdgeRink::six, "ask(3, #)", (y, v) -> y.ask(3, v), Edges.BAD, -1, 2, Edges.LOW, Edges.HIGH);
    }

    private void playerOf() {
        e.at(16, "Of a PLAYER: KIND (0), SKILL (1), a (2), TIRED (3), whether on the ICE (4; 1, 0), COMING (5; 1, 0), LEGS (6), POWER (7).");
        OverTheBoards x = Check.from("player 2 99 9;player 5 99 0;line 0 0;line 1 0 1;on 0");
        x.tell(1, 1, 100);
        int[] early = {2, 99, 9, 0, 1, 0, 99, 108};
        int[] off = {5, 99, 0, 100, 0, 0, 0, 2};
        for (int w = 0; w < 8; w++) e.due("playerOf(0, " + w + ") fresh and on", x.playerOf(0, w), early[w]);
        for (int w = 0; w < 8; w++) e.due("playerOf(1, " + w + ") spent and off", x.playerOf(1, w), off[w]);
        x.change(1);
        int[] coming = {5, 99, 0, 100, 1, 1, 0, 2};
        for (int w = 0; w < 8; w++) e.due("playerOf(1, " + w + ") COMING", x.playerOf(1, w), coming[w]);
        e.at(16, "BAD.");
        e.refused(OverTheBoards::new, "playerOf(0, 0) of nobody", y -> y.playerOf(0, 0), Edges.BAD);
        e.refusedEach(EdgeRink::six, "playerOf(#, 0)", (y, v) -> y.playerOf(v, 0), Edges.BAD, -1, 6, Edges.LOW, Edges.HIGH);
        e.refusedEach(EdgeRink::ten, "playerOf(#, 0)", (y, v) -> y.playerOf(v, 0), Edges.BAD, 10);
        e.refusedEach(EdgeRink::six, "playerOf(0, #)", (y, v) -> y.playerOf(0, v), Edges.BAD, -1, 8, Edges.LOW, Edges.HIGH);
    }

    private void lineOf() {
        e.at(17, "Of a LINE: PLAYERS (what 0, bits), all TIRED together (1), all SKILL together (2), POWER, if it were on by a whistle (3).");
        OverTheBoards x = ten();
        for (int w = 0; w < 4; w++) e.due("lineOf(3, " + w + ") of none", x.lineOf(3, w), 0);
        x.line(3, 0b1111100000);
        for (int p = 5; p < 10; p++) {
            x.tell(p, 0, 99);
            x.tell(p, 1, 100);
        }
        int[] spent = {0b1111100000, 500, 495, 0};
        for (int w = 0; w < 4; w++) e.due("lineOf(3, " + w + ") of five spent ones", x.lineOf(3, w), spent[w]);
        x.pause(100);
        int[] fresh = {0b1111100000, 0, 495, 495};
        for (int w = 0; w < 4; w++) e.due("lineOf(3, " + w + ") of five fresh ones", x.lineOf(3, w), fresh[w]);
        x.line(2, 0b11111);
        int[] first = {0b11111, 0, 250, 250};
        for (int w = 0; w < 4; w++) e.due("lineOf(2, " + w + ") of the first five", x.lineOf(2, w), first[w]);
        x.tell(0, 1, 7);
        e.due("lineOf(2, 1), the first TIRED", x.lineOf(2, 1), 7);
        OverTheBoards early = Check.from("player 2 50 9;line 0 0");
        int[][] tired = {{0, 59}, {9, 54}, {10, 45}};
        for (int[] t : tired) {
            early.tell(0, 1, t[0]);
            e.due("lineOf(0, 3) of an EARLY one, TIRED by " + t[0], early.lineOf(0, 3), t[1]);
        }
        e.due("change(3)", x.change(3), 3);
        e.due("power() of those COMING", x.power(), 247);
        e.due("lineOf(3, 3), none COMING", x.lineOf(3, 3), 495);
        e.at(17, "BAD.");
        e.refusedEach(EdgeRink::six, "lineOf(#, 0)", (y, v) -> y.lineOf(v, 0), Edges.BAD, -1, 4, Edges.LOW, Edges.HIGH);
        e.refusedEach(EdgeRink::six, "lineOf(0, #)", (y, v) -> y.lineOf(0, v), Edges.BAD, -1, 4, Edges.LOW, Edges.HIGH);
    }

    private void power() {
        e.at(18, "POWER.");
        OverTheBoards x = new OverTheBoards();
        e.due("power() of nobody", x.power(), 0);
        x.ask(3, 0);
        e.due("power() of nobody, the KEEPER off", x.power(), 30);
        x = ten();
        e.due("power() of nobody on the ICE", x.power(), 0);
        x.line(0, 0b11111);
        x.whistle(0);
        e.due("power() of five", x.power(), 250);
        x.line(0, 0b1111100000);
        x.change(0);
        e.due("power() of five COMING", x.power(), 125);
    }

    private void odds() {
        e.at(19, "ODDS ours (what 0), against (1).");
        OverTheBoards x = new OverTheBoards();
        e.due("odds(0) of nobody", x.odds(0), 0);
        x.ask(2, 1);
        int[] against = {2, 1, 0};
        for (int t = 0; t < 3; t++) {
            x.ask(0, t);
            e.due("odds(1) of 1 in THIRD " + t, x.odds(1), against[t]);
        }
        x.ask(2, 999);
        int[] most = {1998, 1332, 666};
        for (int t = 0; t < 3; t++) {
            x.ask(0, t);
            e.due("odds(1) of 999 in THIRD " + t, x.odds(1), most[t]);
        }
        e.at(19, "BAD.");
        e.refusedEach(EdgeRink::six, "odds(#)", (y, v) -> y.odds(v), Edges.BAD, -1, 2, Edges.LOW, Edges.HIGH);
    }

    private void way() {
        e.at(20, "WAY of a CHANGE to a LINE.");
        OverTheBoards x = six();
        e.due("way(0) to those who are on", x.way(0), 0);
        e.due("way(1)", x.way(1), 2);
        x.line(3, 0b1000);
        e.due("way(3)", x.way(3), 2);
        e.due("status(1): nothing is begun", x.status(1), 0b100101);
        e.at(20, "BAD");
        e.refusedEach(EdgeRink::six, "way(#)", (y, v) -> y.way(v), Edges.BAD, -1, 4, Edges.LOW, Edges.HIGH);
        e.at(20, "STUCK: it has no PLAYERS.");
        e.refusedEach(EdgeRink::six, "way(#)", (y, v) -> y.way(v), Edges.STUCK, 2, 3);
        e.refusedEach(OverTheBoards::new, "way(#)", (y, v) -> y.way(v), Edges.STUCK, 0, 1, 2, 3);
    }

    private void five() {
        e.at(27, "Of all sets of five PLAYERS (of all, if there are fewer) the one with the greatest POWER, on by a whistle, of several the least as bits.");
        OverTheBoards x = new OverTheBoards();
        for (int p = 0; p < 5; p++) {
            x.player(0, 50, 0);
            e.due("five() of " + (p + 1), x.five(), (1 << p + 1) - 1);
        }
        x.player(0, 50, 0);
        e.due("five() of six alike", x.five(), 0b11111);
        x.tell(0, 0, 49);
        e.due("five() without the first", x.five(), 0b111110);
        x = ten();
        e.due("five() of ten alike", x.five(), 0b11111);
        for (int p = 5; p < 10; p++) x.tell(p, 0, 51);
        e.due("five() of the last five", x.five(), 0b1111100000);
        for (int p = 0; p < 10; p++) x.tell(p, 1, 100);
        e.due("five() of ten spent ones", x.five(), 0b11111);
        x = ten();
        x.line(0, 0b1111100000);
        x.change(0);
        e.due("five(), though others are COMING", x.five(), 0b11111);
        e.at(27, "STUCK: nobody.");
        e.refused(OverTheBoards::new, "five()", OverTheBoards::five, Edges.STUCK);
    }

    private void best() {
        e.at(40, "The freshest LINE (with PLAYERS; least TIRED together, what 0), the strongest (POWER by a whistle, 1), of several the first.");
        OverTheBoards x = ten();
        x.line(3, 0b1000);
        e.due("best(0) of one LINE", x.best(0), 3);
        e.due("best(1) of one LINE", x.best(1), 3);
        x.line(2, 0b100);
        e.due("best(0) of two alike", x.best(0), 2);
        e.due("best(1) of two alike", x.best(1), 2);
        x.tell(2, 1, 1);
        e.due("best(0), the first more TIRED by 1", x.best(0), 3);
        e.due("best(1), the first weaker by 1", x.best(1), 3);
        x.tell(3, 1, 100);
        e.due("best(0), the last spent", x.best(0), 2);
        x.tell(2, 1, 100);
        e.due("best(0), both spent", x.best(0), 2);
        e.due("best(1), both of no POWER", x.best(1), 2);
        x.line(2, 0b100000);
        x.line(3, 0b10010000);
        e.due("best(0): as fresh, though more", x.best(0), 2);
        x.line(0, 0b1000000000);
        e.due("best(0): LINE 0 as fresh", x.best(0), 0);
        x.tell(9, 0, 99);
        x.line(3, 0b10000);
        e.due("best(1): LINE 0 is the strongest", x.best(1), 0);
        x.tell(9, 1, 1);
        e.due("best(0): LINE 0 more TIRED by 1", x.best(0), 2);
        x.line(0, 0);
        x.line(3, 0b10010000);
        e.due("best(1): more of them are stronger", x.best(1), 3);
        e.at(40, "BAD");
        e.refusedEach(EdgeRink::six, "best(#)", (y, v) -> y.best(v), Edges.BAD, -1, 2, Edges.LOW, Edges.HIGH);
        e.refusedEach(EdgeRink::ten, "best(#), no LINE having PLAYERS", (y, v) -> y.best(v), Edges.BAD, -1, 2);
        e.at(40, "STUCK: no LINE has PLAYERS.");
        e.refusedEach(EdgeRink::ten, "best(#)", (y, v) -> y.best(v), Edges.STUCK, 0, 1);
        e.refusedEach(OverTheBoards::new, "best(#)", (y, v) -> y.best(v), Edges.STUCK, 0, 1);
    }

    private void rests() {
        e.at(41, "How many SECONDS off the ICE until a PLAYER isn't TIRED; of one on it, if it left now.");
        int[][] tired = {{0, 0, 0}, {1, 1, 1}, {2, 2, 1}, {3, 3, 2}, {99, 99, 50}, {100, 100, 50}};
        OverTheBoards x = Check.from("player 1 50 0;player 3 50 0;line 0 0 1");
        for (int round = 0; round < 2; round++) {
            for (int[] t : tired) {
                x.tell(0, 1, t[0]);
                x.tell(1, 1, t[0]);
                e.due("rests(0) at TIRED " + t[0], x.rests(0), t[1]);
                e.due("rests(1) of a STAR at TIRED " + t[0], x.rests(1), t[2]);
            }
            x.whistle(0);
        }
        e.at(41, "BAD.");
        e.refused(OverTheBoards::new, "rests(0) of nobody", y -> y.rests(0), Edges.BAD);
        e.refusedEach(EdgeRink::six, "rests(#)", (y, v) -> y.rests(v), Edges.BAD, -1, 6, Edges.LOW, Edges.HIGH);
        e.refusedEach(EdgeRink::ten, "rests(#)", (y, v) -> y.rests(v), Edges.BAD, 10);
    }
}
