/** Boundaries that Terms name for every promise: the RINK, SECONDS, SHELVES and REFUSALS. */
final class EdgeTerms {
    private final Edges e;

    private EdgeTerms(Edges e) {
        this.e = e;
    }

    static void run(Edges e) {
        EdgeTerms t = new EdgeTerms(e);
        t.players();
        t.lines();
        t.atFirst();
        t.second();
        t.power();
        t.odds();
        t.way();
        t.changeBegins();
        t.thought();
        t.shelves();
        t.rows();
        t.refusals();
        t.calls();
    }

    private void players() {
        e.at(0, "PLAYERS have numbers, 0 on, 10 at most,");
        OverTheBoards x = new OverTheBoards();
        for (int p = 0; p < 10; p++) e.due("player(0, 50, 0)", x.player(0, 50, 0), p);
        e.due("player(0, 50, 0), an eleventh", x.player(0, 50, 0), Edges.FULL);
        e.at(0, "each of a KIND: 0 PLAYER; 1 LATE, 2 EARLY, 4 DEEP, each under PLAYER; 3 STAR, under LATE; 5 CALLER, under DEEP;");
        x = new OverTheBoards();
        int[] under = {0b000001, 0b000011, 0b000101, 0b001011, 0b010001, 0b110001};
        for (int p = 0; p < 6; p++) {
            e.due("player(" + p + ", 1, 0)", x.player(p, 1, 0), p);
            x.show(0, p);
            for (int k = 0; k < 6; k++) {
                e.due("says(0, " + k + ") of KIND " + p + " is refused", x.says(0, k) == Edges.OTHER ? 1 : 0, 1 - (under[p] >> k & 1));
            }
        }
        e.due("player(-1, 1, 0)", x.player(-1, 1, 0), Edges.BAD);
        e.due("player(6, 1, 0)", x.player(6, 1, 0), Edges.BAD);
        e.at(0, "SKILL (1 to 99), a (0 to 9), TIRED (0 to 100; 0 at first), on the ICE or not (at first not).");
        x = new OverTheBoards();
        e.due("player(0, 1, 0)", x.player(0, 1, 0), 0);
        e.due("player(0, 99, 9)", x.player(0, 99, 9), 1);
        for (int p = 0; p < 2; p++) for (int w = 3; w < 6; w++) e.due("playerOf(" + p + ", " + w + ")", x.playerOf(p, w), 0);
        int[][] bad = {{0, 0}, {100, 0}, {1, -1}, {1, 10}};
        for (int[] b : bad) e.due("player(0, " + b[0] + ", " + b[1] + ")", x.player(0, b[0], b[1]), Edges.BAD);
        e.due("tell(0, 1, 101)", x.tell(0, 1, 101), Edges.BAD);
        e.due("tell(0, 1, 100)", x.tell(0, 1, 100), 0);
    }

    private void lines() {
        e.at(0, "LINES are 0 to 3: sets of PLAYERS (bits; none at first), 5 at most each.");
        OverTheBoards x = new OverTheBoards();
        for (int p = 0; p < 6; p++) x.player(0, 50, 0);
        for (int l = 0; l < 4; l++) {
            e.due("line(" + l + ", five)", x.line(l, 0b111110), 0);
            e.due("line(" + l + ", six)", x.line(l, 0b111111), Edges.BAD);
            e.due("lineOf(" + l + ", 0)", x.lineOf(l, 0), 0b111110);
        }
        e.due("line(4, 0)", x.line(4, 0), Edges.BAD);
        e.due("line(-1, 0)", x.line(-1, 0), Edges.BAD);
    }

    private void atFirst() {
        OverTheBoards x = new OverTheBoards();
        e.at(0, "THIRD: where the puck is (0 to 2; 1 at first);");
        e.due("ask(0, 3)", x.ask(0, 3), Edges.BAD);
        e.due("ask(0, 2)", x.ask(0, 2), 1);
        e.due("ask(0, 0)", x.ask(0, 0), 2);
        e.at(0, "HALF (0, 1; 0 at first): the bench is FAR in HALF 1.");
        x = Check.from("player 0 50 0;line 0 0");
        e.due("ask(1, 2)", x.ask(1, 2), Edges.BAD);
        e.due("way(0) in HALF 0", x.way(0), 3);
        e.due("ask(1, 1)", x.ask(1, 1), 0);
        e.due("way(0) in HALF 1", x.way(0), 5);
        e.at(0, "A CHANGE may be under way: some PLAYERS COMING, for so many SECONDS more.");
        e.due("status(2)", x.status(2), 0);
        e.due("status(3)", x.status(3), 0);
        x.change(0);
        e.due("status(2)", x.status(2), 1);
        e.due("status(3)", x.status(3), 5);
        e.at(0, "THEIRS: strength of the others (1 to 999; 150 at first).");
        e.due("ask(2, 0)", x.ask(2, 0), Edges.BAD);
        e.due("ask(2, 1000)", x.ask(2, 1000), Edges.BAD);
        e.due("ask(2, 1)", x.ask(2, 1), 150);
        e.due("ask(2, 999)", x.ask(2, 999), 1);
        e.at(0, "SECOND (0 at first), MINUS (seconds with a man fewer; 0 at first), OURS, AGAINST (goals; 0 at first).");
        for (int i = 8; i < 12; i++) e.due("status(" + i + ")", new OverTheBoards().status(i), 0);
        x.skate(9);
        e.due("status(9): as many as he was COMING", x.status(9), 5);
        e.at(0, "KEEPER on (1 at first).");
        e.due("ask(3, 2)", x.ask(3, 2), Edges.BAD);
        e.due("ask(3, 0)", x.ask(3, 0), 1);
    }

    private void second() {
        e.at(0, "A SECOND: each PLAYER on the ICE is 2 more TIRED (LATE, STAR: 3 more); each off it 1 less (STAR: 2 less); 0 to 100.");
        int[] more = {2, 3, 2, 3, 2, 2};
        int[] less = {1, 1, 1, 2, 1, 1};
        for (int kind = 0; kind < 6; kind++) {
            OverTheBoards x = new OverTheBoards();
            x.player(kind, 50, 0);
            x.line(0, 1);
            for (int on = 0; on < 2; on++) {
                for (int tired : new int[] {0, 1, 2, 3, 50, 96, 97, 98, 99, 100}) {
                    int then = on == 1 ? Math.min(100, tired + more[kind]) : Math.max(0, tired - less[kind]);
                    String when = " of KIND " + kind + ", on " + on + ", TIRED by " + tired;
                    x.tell(0, 1, tired);
                    e.due("behind(1, 0)" + when, x.behind(1, 0), then);
                    x.skate(1);
                    e.due("playerOf(0, 3) behind skate(1)" + when, x.playerOf(0, 3), then);
                }
                x.whistle(0);
            }
        }
        OverTheBoards x = Check.from("player 0 50 0;line 0 0");
        x.change(0);
        x.skate(1);
        e.due("playerOf(0, 3) of one who is COMING", x.playerOf(0, 3), 2);
    }

    private void power() {
        e.at(0, "LEGS of one: SKILL times 100 less TIRED, by 100 (cut).");
        OverTheBoards x = Check.from("player 0 1 0");
        int[][] legs = {{1, 0, 1}, {1, 1, 0}, {99, 0, 99}, {99, 1, 98}, {99, 98, 1}, {99, 99, 0}, {99, 100, 0}, {50, 50, 25}, {50, 51, 24}};
        for (int[] l : legs) {
            x.tell(0, 0, l[0]);
            x.tell(0, 1, l[1]);
            e.due("playerOf(0, 6) of SKILL " + l[0] + ", TIRED " + l[1], x.playerOf(0, 6), l[2]);
        }
        e.at(0, "POWER of one: LEGS; EARLY: a more, as long as TIRED is below 10; CALLER: 2 more for each other PLAYER on the ICE.");
        x = Check.from("player 2 99 9;player 5 99 9;player 0 1 9;player 0 1 9;player 0 1 9;player 0 1 9;line 0 1;line 1 1 2 3 4 5");
        int[][] early = {{0, 108}, {9, 99}, {10, 89}, {100, 0}};
        for (int[] t : early) {
            x.tell(0, 1, t[0]);
            e.due("playerOf(0, 7) of an EARLY one, TIRED by " + t[0], x.playerOf(0, 7), t[1]);
        }
        e.due("playerOf(1, 7) of a CALLER, nobody on", x.playerOf(1, 7), 99);
        x.whistle(0);
        e.due("playerOf(1, 7) of a CALLER, alone", x.playerOf(1, 7), 99);
        x.whistle(1);
        e.due("playerOf(1, 7) of a CALLER, four others on", x.playerOf(1, 7), 107);
        e.due("playerOf(2, 7) of a PLAYER: LEGS", x.playerOf(2, 7), 1);
        e.at(0, "POWER: of all who are on the ICE together, of those COMING half (of all of these together, cut); 30 more, if the KEEPER is off.");
        x = Check.from("player 0 1 0;player 0 1 0;player 0 1 0;player 0 8 0;line 0 3;line 1 0;line 2 0 1;line 3 0 1 2 3");
        int[] half = {8, 0, 1, 9};
        for (int l = 1; l < 3; l++) {
            x.whistle(0);
            x.change(l);
            e.due("power() of " + l + " COMING", x.power(), half[l]);
        }
        x.whistle(0);
        x.change(3);
        e.due("power() of 8 and three COMING", x.power(), half[3]);
        x.ask(3, 0);
        e.due("power(), the KEEPER off", x.power(), 39);
    }

    private void odds() {
        e.at(0, "ODDS in a SECOND, of 50,000: ours: 2 times POWER times (THIRD and 1), by 3 (cut);");
        OverTheBoards x = Check.from("player 0 1 0;line 0 0;on 0");
        int[][] ours = {{0, 1, 0}, {0, 2, 1}, {0, 3, 2}, {1, 1, 1}, {1, 2, 2}, {1, 4, 5}, {2, 1, 2}, {2, 99, 198}};
        for (int[] o : ours) {
            x.ask(0, o[0]);
            x.tell(0, 0, o[1]);
            e.due("odds(0) of " + o[1] + " in THIRD " + o[0], x.odds(0), o[2]);
        }
        x.ask(3, 0);
        e.due("odds(0), the KEEPER off: of 30 more", x.odds(0), 258);
        e.at(0, "against: 2 times THEIRS times (3 less THIRD), by 3 (cut); 5 times that, if the KEEPER is off.");
        int[][] against = {{0, 1, 2}, {1, 1, 1}, {2, 1, 0}, {2, 2, 1}, {2, 3, 2}, {1, 2, 2}, {0, 999, 1998}, {1, 998, 1330}, {2, 998, 665}};
        for (int keeper = 1; keeper >= 0; keeper--) {
            x.ask(3, keeper);
            for (int[] a : against) {
                x.ask(0, a[0]);
                x.ask(2, a[1]);
                e.due("odds(1) of " + a[1] + " in THIRD " + a[0] + ", KEEPER " + keeper, x.odds(1), (keeper == 1 ? 1 : 5) * a[2]);
            }
        }
    }

    private void way() {
        e.at(0, "WAY of a CHANGE to a LINE: 3 SECONDS; 2 more, if the bench is FAR; 2 less, if the puck is in THIRD 2; 1 less for each DEEP one (CALLERS, too) who leaves the ICE; 1 at least.");
        for (int deep = 0; deep <= 5; deep++) {
            OverTheBoards x = new OverTheBoards();
            for (int p = 0; p < 5; p++) x.player(p < deep ? 4 + p % 2 : p % 4, 50, 0);
            x.player(4, 50, 0);
            x.line(0, 0b011111);
            x.line(1, 0b100000);
            x.whistle(0);
            for (int half = 0; half < 2; half++) {
                for (int third = 0; third < 3; third++) {
                    x.ask(1, half);
                    x.ask(0, third);
                    int way = 3 + 2 * half - (third == 2 ? 2 : 0) - deep;
                    e.due("way(1), HALF " + half + ", THIRD " + third + ", DEEP ones " + deep, x.way(1), way < 1 ? 1 : way);
                }
            }
        }
        OverTheBoards x = Check.from("player 4 50 0;player 5 50 0;player 0 50 0;line 0 0 1;line 1 0 2;on 0");
        e.due("way(1): one of two DEEP ones stays", x.way(1), 2);
    }

    private void changeBegins() {
        e.at(0, "It begins at once: just the LINE's PLAYERS are on the ICE, those of them who weren't are COMING for as many SECONDS as WAY has (then none is).");
        for (int half = 0; half < 2; half++) {
            for (int third = 1; third < 3; third++) {
                OverTheBoards x = Check.from("player 0 50 0;player 0 50 0;player 0 50 0;line 0 0 1;line 1 1 2;on 0;third " + third + ";half " + half);
                x.ask(2, 1);
                int way = x.change(1);
                e.due("change(1)", way, 3 + 2 * half - (third == 2 ? 2 : 0));
                e.due("status(1)", x.status(1), 0b110);
                e.due("status(3)", x.status(3), way);
                for (int s = way; s > 0; s--) {
                    e.due("status(2), " + s + " SECONDS more", x.status(2), 0b100);
                    x.skate(1);
                }
                e.due("status(2) then", x.status(2), 0);
                e.due("status(3) then", x.status(3), 0);
                e.due("status(1) then", x.status(1), 0b110);
                x.skate(1);
                e.due("status(3), a SECOND later", x.status(3), 0);
            }
        }
        e.at(0, "(0, and none is COMING, if nobody who isn't on is of the LINE.)");
        OverTheBoards x = Check.from("player 0 50 0;player 4 50 0;line 0 0 1;line 1 0;on 0;half 1");
        e.due("way(0)", x.way(0), 0);
        e.due("way(1)", x.way(1), 0);
        e.due("change(1)", x.change(1), 0);
        e.due("status(1)", x.status(1), 1);
        e.due("status(2)", x.status(2), 0);
        e.due("change(0)", x.change(0), 5);
        e.due("status(2)", x.status(2), 0b10);
        e.due("change(0) while one is COMING", x.change(0), 0);
        e.due("status(2)", x.status(2), 0);
        e.due("status(3)", x.status(3), 0);
        e.at(0, "At a whistle none is COMING at all.");
        x.whistle(1);
        x.change(0);
        e.due("status(2)", x.status(2), 0b10);
        x.whistle(0);
        e.due("status(2)", x.status(2), 0);
        e.due("status(3)", x.status(3), 0);
        e.due("power()", x.power(), 100);
    }

    private static OverTheBoards rink() {
        OverTheBoards x = Check.from("player 0 50 0;player 3 50 0;player 5 20 0;line 0 0;line 1 1 2;on 0;third 2;half 1;skate 7");
        x.change(1);
        x.row(0, 0, 40);
        x.set(0, 0, 1);
        return x;
    }

    private void unchanged(String call, java.util.function.ToLongFunction<OverTheBoards> run) {
        OverTheBoards x = rink();
        long answer = run.applyAsLong(x);
        e.due(call + " isn't refused", answer > Edges.NO && (answer > Edges.FULL || answer < -20) || answer >= 0 ? 1 : 0, 1);
        e.same("behind " + call, x, rink());
        for (int r = 12; r <= 16; r++) e.due("status(" + r + ") behind " + call, x.status(r), 0);
    }

    private void thought() {
        e.at(0, "in thought; nothing is changed");
        unchanged("behind(600, 0)", x -> x.behind(600, 0));
        unchanged("behind(600, -1)", x -> x.behind(600, -1));
        unchanged("gains(600)", x -> x.gains(600));
        unchanged("tiredest(600)", x -> x.tiredest(600));
        unchanged("fresh(0, 0)", x -> x.fresh(0, 0));
        unchanged("third(600)", x -> x.third(600));
        unchanged("theirsFor(600)", x -> x.theirsFor(600));
        unchanged("five()", OverTheBoards::five);
        unchanged("two(0, 1, 600)", x -> x.two(0, 1, 600));
        unchanged("shifts(5, 600)", x -> x.shifts(5, 600));
        unchanged("bestShift(600)", x -> x.bestShift(600));
        unchanged("changeNow(0, 600)", x -> x.changeNow(0, 600));
        unchanged("where(0, 600)", x -> x.where(0, 600));
        unchanged("meets(0, 999)", x -> x.meets(0, 999));
        unchanged("match(0, 1, 1)", x -> x.match(0, 1, 1));
        unchanged("pull(600, 50)", x -> x.pull(600, 50));
        unchanged("minutes(-1)", x -> x.minutes(-1));
        unchanged("penalty(-1)", x -> x.penalty(-1));
        unchanged("penalty(600)", x -> x.penalty(600));
        unchanged("judge(0, 40)", x -> x.judge(0, 40));
        unchanged("booked(0, 40, 0, 0)", x -> x.booked(0, 40, 0, 0));
        unchanged("booked(0, 40, 0, 1)", x -> x.booked(0, 40, 0, 1));
        unchanged("best(0)", x -> x.best(0));
        unchanged("best(1)", x -> x.best(1));
        unchanged("lineOf(0, 3)", x -> x.lineOf(0, 3));
        unchanged("rests(0)", x -> x.rests(0));
        unchanged("way(0)", x -> x.way(0));
    }

    private void shelves() {
        e.at(0, "SHELVES 0 to 7 hold NOTHING (at first), a ROW, or a PLAYER.");
        OverTheBoards x = Check.from("player 0 50 0");
        for (int s = 0; s < 8; s++) {
            e.due("holds(" + s + ")", x.holds(s), Edges.NONE);
            e.due("row(" + s + ", 4, 1)", x.row(s, 4, 1), 1);
            e.due("holds(" + s + ")", x.holds(s), 4);
            e.due("show(" + s + ", 0)", x.show(s, 0), 1);
            e.due("holds(" + s + ")", x.holds(s), 10);
        }
        for (int s : new int[] {-1, 8}) {
            e.due("row(" + s + ", 4, 1)", x.row(s, 4, 1), Edges.BAD);
            e.due("show(" + s + ", 0)", x.show(s, 0), Edges.BAD);
        }
    }

    private void rows() {
        e.at(0, "A ROW has a SORT (0 bytes, 1 shorts, 2 ints, 3 longs, 4 booleans) and 0 to 40 elements (0, or not so, at first);");
        OverTheBoards x = new OverTheBoards();
        for (int sort = 0; sort < 5; sort++) {
            e.due("row(0, " + sort + ", 40)", x.row(0, sort, 40), 1);
            e.due("row(0, " + sort + ", 41)", x.row(0, sort, 41), Edges.BAD);
            for (int i = 0; i < 40; i++) e.due("element(0, " + i + ") of SORT " + sort, x.element(0, i), 0);
            e.due("row(0, " + sort + ", 0)", x.row(0, sort, 0), 1);
        }
        e.due("row(0, 5, 0)", x.row(0, 5, 0), Edges.BAD);
        e.at(0, "what is put in keeps its lowest bits (of booleans: whether it is not 0); told they are numbers (1, 0).");
        long[] put = {0, 1, -1, 127, 128, -128, -129, 255, 256, 32767, 32768, -32768, -32769, 65535, 65536, 2147483647L, 2147483648L,
            -2147483648L, -2147483649L, 4294967295L, 4294967296L, Long.MAX_VALUE, Long.MIN_VALUE, 1L << 40};
        for (int sort = 0; sort < 5; sort++) {
            x = new OverTheBoards();
            x.row(0, sort, 1);
            for (long v : put) {
                long[] kept = {(byte) v, (short) v, (int) v, v, v == 0 ? 0 : 1};
                e.due("set(0, 0, " + v + ") of SORT " + sort, x.set(0, 0, v), 1);
                e.due("element(0, 0)", x.element(0, 0), kept[sort]);
            }
        }
    }

    private static OverTheBoards full() {
        OverTheBoards x = new OverTheBoards();
        for (int p = 0; p < 10; p++) x.player(0, 50, 0);
        for (int i = 0; i < 250; i++) x.feed(32);
        x.show(1, 0);
        return x;
    }

    private void refusals() {
        e.at(0, "REFUSALS (the call answers the number; nothing changes but how many there were; the first that fits as each line has them):");
        OverTheBoards x = full();
        for (int i = 1; i <= 3; i++) {
            e.due("player(6, 1, 0): BAD ahead of FULL", x.player(6, 1, 0), Edges.BAD);
            e.due("status(12)", x.status(12), i);
            e.due("status(16)", x.status(16), 0);
        }
        e.due("says(1, 6): BAD ahead of OTHER", x.says(1, 6), Edges.BAD);
        e.due("copy(1, 7, 0, 0, 0): OTHER ahead of NOTHING", x.copy(1, 7, 0, 0, 0), Edges.OTHER);
        e.due("set(7, 99, 0): NOTHING ahead of BAD", x.set(7, 99, 0), Edges.NOTHING);
        e.due("fresh(0, 601): BAD ahead of STUCK", x.fresh(0, 601), Edges.BAD);
        e.at(0, "-2 BAD a number that may not be, nothing of that number.");
        e.refused(EdgeTerms::full, "row(0, 5, 0)", y -> y.row(0, 5, 0), -2);
        e.refused(EdgeTerms::full, "rests(10)", y -> y.rests(10), -2);
        e.at(0, "-3 OTHER: a SHELF that holds another thing than is wanted.");
        e.refused(EdgeTerms::full, "set(1, 0, 0) of a PLAYER", y -> y.set(1, 0, 0), -3);
        e.at(0, "-4 NOTHING: a SHELF that holds NOTHING.");
        e.refused(EdgeTerms::full, "set(0, 0, 0) of NOTHING", y -> y.set(0, 0, 0), -4);
        e.at(0, "-5 STUCK: it can't be as things stand.");
        e.refused(EdgeTerms::full, "way(0)", y -> y.way(0), -5);
        e.at(0, "-6 FULL.");
        e.refused(EdgeTerms::full, "player(0, 1, 0)", y -> y.player(0, 1, 0), -6);
        e.refused(EdgeTerms::full, "feed(0)", y -> y.feed(0), -6);
        e.at(0, "(Calls that tell GAINS, which may be below 0, answer -1000000000 and the number.)");
        e.refused(EdgeTerms::full, "gains(601)", y -> y.gains(601), -1000000002);
        e.refused(EdgeTerms::full, "match(1, 1, 0)", y -> y.match(1, 1, 0), -1000000003);
        e.refused(EdgeTerms::full, "match(0, 1, 0)", y -> y.match(0, 1, 0), -1000000004);
        e.refused(EdgeTerms::full, "game(1)", y -> y.game(1), -1000000005);
    }

    private void calls() {
        e.at(Edges.USE, "An object is used for at most 512 calls after it has been made");
        OverTheBoards x = Check.from("player 0 50 0;line 0 0;on 0");
        // 28 calls so far
        for (int i = 29; i < 512; i++) x.skate(300);
        e.due("status(8), the 512th call", x.status(8), 300 * (511 - 28));
    }
}
