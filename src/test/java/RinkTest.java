/** Promises 9 to 20, 27, 40, 41: PLAYERS and LINES, THE TAPE, and how things stand. */
public final class RinkTest {
    private static final Check check = new Check();
    private static final String SIX =
        "player 0 60 0;player 1 80 2;player 2 50 7;player 3 95 1;player 4 70 0;player 5 66 3";

    public static void main(String[] args) {
        player();
        tell();
        line();
        ask();
        feedAndWipe();
        rinkReads();
        rinkFaults();
        rinkIsAllOrNothing();
        playerOf();
        lineOf();
        powerAndOdds();
        way();
        five();
        best();
        rests();
        check.end("RinkTest");
    }

    private static void player() {
        OverTheBoards x = new OverTheBoards();
        int[][] bad = {{-1, 1, 0}, {6, 1, 0}, {0, 0, 0}, {0, 100, 0}, {0, 1, -1}, {0, 1, 10}};
        for (int[] b : bad) check.due("bad player", x.player(b[0], b[1], b[2]), -2);
        for (int i = 0; i < 10; i++) check.due("player", x.player(i % 6, i == 0 ? 1 : 99, i), i);
        check.due("an eleventh", x.player(0, 1, 0), -6);
        check.due("a bad eleventh", x.player(6, 1, 0), -2);
        check.due("players", x.status(0), 10);
        check.due("full", x.status(16), 1);
        check.due("bad", x.status(12), 7);
    }

    private static void tell() {
        OverTheBoards x = Check.from("player 0 60 0");
        check.due("tell skill", x.tell(0, 0, 99), 60);
        check.due("tell skill", x.tell(0, 0, 1), 99);
        check.due("tell tired", x.tell(0, 1, 100), 0);
        check.due("tell tired", x.tell(0, 1, 0), 100);
        int[][] bad = {{1, 0, 1}, {-1, 0, 1}, {0, 2, 1}, {0, -1, 1}, {0, 0, 0}, {0, 0, 100}, {0, 1, -1}, {0, 1, 101}};
        for (int[] b : bad) check.due("bad tell", x.tell(b[0], b[1], b[2]), -2);
        check.due("skill", x.playerOf(0, 1), 1);
        check.due("bad", x.status(12), bad.length);
    }

    private static void line() {
        OverTheBoards x = Check.from(SIX);
        check.due("line", x.line(3, 0b11111), 0);
        check.due("line", x.line(3, 0b100000), 0b11111);
        check.due("six in a line", x.line(3, 0b111111), -2);
        check.due("nobody of that number", x.line(3, 0b1000000), -2);
        check.due("below 0", x.line(3, -1), -2);
        check.due("below 0", x.line(3, Integer.MIN_VALUE), -2);
        check.due("line 4", x.line(4, 0), -2);
        check.due("line -1", x.line(-1, 0), -2);
        check.due("none", x.line(3, 0), 0b100000);
        check.due("bad", x.status(12), 6);
    }

    private static void ask() {
        OverTheBoards x = new OverTheBoards();
        check.due("third", x.ask(0, 2), 1);
        check.due("third", x.ask(0, 0), 2);
        check.due("half", x.ask(1, 1), 0);
        check.due("theirs", x.ask(2, 999), 150);
        check.due("theirs", x.ask(2, 1), 999);
        check.due("keeper", x.ask(3, 0), 1);
        int[][] bad = {{0, 3}, {0, -1}, {1, 2}, {1, -1}, {2, 0}, {2, 1000}, {3, 2}, {3, -1}, {4, 0}, {-1, 0}};
        for (int[] b : bad) check.due("bad ask", x.ask(b[0], b[1]), -2);
        int[] want = {0, 1, 1, 0};
        for (int i = 0; i < 4; i++) check.due("status", x.status(4 + i), want[i]);
        check.due("bad", x.status(12), bad.length);
    }

    private static void feedAndWipe() {
        OverTheBoards x = new OverTheBoards();
        check.due("feed -1", x.feed(-1), -2);
        check.due("feed 256", x.feed(256), -2);
        for (int i = 1; i <= 250; i++) check.due("feed", x.feed(i % 256), i);
        check.due("feed 251st", x.feed(0), -6);
        check.due("feed bad 251st", x.feed(256), -2);
        check.due("size", x.status(17), 250);
        check.due("wipe", x.wipe(), 250);
        check.due("wipe", x.wipe(), 0);
        check.due("feed again", x.feed(255), 1);
    }

    private static void rinkReads() {
        OverTheBoards x = new OverTheBoards();
        check.due("one", Check.rink(x, "player 0 60 0"), 1);
        check.due("tape is empty then", x.status(17), 0);
        check.due("no blanks between word and number", Check.rink(x, "player1 80 2;player2 50 7"), 2);
        check.due("many blanks", Check.rink(x, "   player   003 095  001  ;  line  0  0 1 2   "), 2);
        check.due("line", x.lineOf(0, 0), 0b111);
        check.due("five in a line", Check.rink(x, "player 0 1 0;line 1 4 3 2 1 0;line 1 3"), 3);
        check.due("just these", x.lineOf(1, 0), 0b1000);
        check.due("settings", Check.rink(x, "third 0;half 1;theirs 999;third 2"), 4);
        check.due("third", x.status(4), 2);
        check.due("half", x.status(5), 1);
        check.due("theirs", x.status(6), 999);
        x.change(0);
        check.due("on", Check.rink(x, "on 1"), 1);
        check.due("ice", x.status(1), 0b1000);
        check.due("nobody is coming at a whistle", x.status(2), 0);
        check.due("skate", Check.rink(x, "skate 1;skate 99"), 2);
        check.due("second", x.status(8), 100);
        check.due("the last of each", Check.rink(x, "line 3 4;on 3;theirs 1;half 0;third 0"), 5);
        check.due("ice", x.status(1), 0b10000);
        check.due("theirs", x.status(6), 1);
        check.due("nothing was refused", x.status(12), 0);
    }

    private static void rinkFaults() {
        Object[][] faults = {
            {"", 0}, {"   ", 3}, {"player", 6}, {"player 0 50 ", 12}, {"player 0 50 0;", 14}, {"player 0 50 0; ", 15},
            {";", 0}, {"player 0 50 0;;", 14}, {"players 0 50 0", 0}, {"Player 0 50 0", 0}, {" 7", 1},
            {"player 6 50 0", 7}, {"player 0 0 0", 9}, {"player 0 100 0", 9}, {"player 0 50 10", 12},
            {"player 0 50 0 0", 14}, {"player 0 50 0 on 0", 14}, {"player 0 0050 0", 9}, {"player 0000 50 0", 7},
            {"player 0 5\n0", 10}, {"player ; 0", 7}, {"player on", 7}, {"player 0 50 0/", 13},
            {"line 4 0", 5}, {"line 0 7", 7}, {"line 0", 6}, {"line 0;", 6}, {"line 0 0 0", 9}, {"line 0 0 1 0", 11},
            {"line 0 0 1 2 3 4 5", 17}, {"line 0 0 1 2 3 4 9", 17}, {"line 0 0 1 2 3 4 0005", 17}, {"line 0 0 on 0", 9},
            {"line 0 0001", 7}, {"on 1", 3}, {"on 4", 3}, {"on 0", 3}, {"on", 2}, {"third 3", 6}, {"third x", 6},
            {"half 2", 5}, {"theirs 0", 7}, {"theirs 1000", 7}, {"skate 0", 6}, {"skate 100", 6}, {"skate 12 1", 9},
            {"third 1;fourth 1", 8}, {"bn 0", 0}, {"onz 0", 0}, {"line 0 6", 7}, {"third 1 half 1", 8}, {"third 1;;half 1", 8}, {"third1half", 6},
            {"third 1" + (char) 200, 7}, {"third " + (char) 0, 6}};
        for (Object[] f : faults) {
            OverTheBoards x = Check.from(SIX);
            check.due("fault of '" + f[0] + "'", Check.rink(x, (String) f[0]), -20 - (int) f[1]);
            check.due("it is refused", x.status(12), 1);
            check.due("tape is empty then", x.status(17), 0);
        }
        OverTheBoards x = Check.from(SIX + ";player 0 1 0;player 0 1 0;player 0 1 0");
        check.due("no room for the second", Check.rink(x, "player 0 1 0; player 0 1 0"), -34);
        check.due("no room: its word comes first", Check.rink(x, "player 0 1 0;player 9"), -33);
        check.due("nobody came", x.status(0), 9);
    }

    private static void rinkIsAllOrNothing() {
        OverTheBoards x = Check.from(SIX + ";line 0 0 1;on 0;skate 7");
        int[] ahead = new int[20];
        for (int i = 0; i < 20; i++) ahead[i] = x.status(i);
        check.due("a fault at the end", Check.rink(x,
            "player 0 9 9;line 0 6;line 1 2 3;on 1;third 2;half 1;theirs 9;skate 40;on 2"), -20 - 74);
        for (int i = 0; i < 20; i++) check.due("status(" + i + ")", x.status(i), i == 12 ? 1 : ahead[i]);
        check.due("line 0", x.lineOf(0, 0), 3);
        check.due("line 1", x.lineOf(1, 0), 0);
        check.due("tired", x.playerOf(0, 3), 14);
    }

    private static void playerOf() {
        OverTheBoards x = Check.from(SIX + ";line 0 0 2 5;line 1 0 2 3 5;on 0");
        x.tell(3, 1, 33);
        x.change(1);
        int[] star = {3, 95, 1, 33, 1, 1, 63, 63};
        int[] early = {2, 50, 7, 0, 1, 0, 50, 57};
        int[] caller = {5, 66, 3, 0, 1, 0, 66, 72};
        for (int w = 0; w < 8; w++) {
            check.due("star " + w, x.playerOf(3, w), star[w]);
            check.due("early " + w, x.playerOf(2, w), early[w]);
            check.due("caller " + w, x.playerOf(5, w), caller[w]);
        }
        check.due("off the ice", x.playerOf(1, 4), 0);
        x.tell(2, 1, 9);
        check.due("early at 9", x.playerOf(2, 7), 45 + 7);
        x.tell(2, 1, 10);
        check.due("early at 10", x.playerOf(2, 7), 45);
        int[][] bad = {{6, 0}, {-1, 0}, {0, 8}, {0, -1}};
        for (int[] b : bad) check.due("bad", x.playerOf(b[0], b[1]), -2);
        check.due("refusals", x.status(12), 4);
    }

    private static void lineOf() {
        OverTheBoards x = Check.from(SIX + ";line 0 0 2 5;line 1 5");
        x.tell(0, 1, 51);
        x.tell(2, 1, 5);
        check.due("bits", x.lineOf(0, 0), 0b100101);
        check.due("tired", x.lineOf(0, 1), 56);
        check.due("skill", x.lineOf(0, 2), 176);
        check.due("power", x.lineOf(0, 3), 29 + 47 + 7 + 66 + 4);
        x.whistle(0);
        check.due("power of one by a whistle", x.lineOf(1, 3), 66);
        for (int w = 0; w < 4; w++) check.due("of nobody", x.lineOf(2, w), 0);
        x.ask(3, 0);
        check.due("power without the keeper", x.lineOf(1, 3), 96);
        int[][] bad = {{4, 0}, {-1, 0}, {0, 4}, {0, -1}};
        for (int[] b : bad) check.due("bad", x.lineOf(b[0], b[1]), -2);
        check.due("refusals", x.status(12), 4);
    }

    private static void powerAndOdds() {
        OverTheBoards x = Check.from("player 0 33 0;player 0 44 0;player 0 55 0;player 5 20 0;line 0 0;line 1 0 1 2 3;on 0");
        check.due("power", x.power(), 33);
        x.change(1);
        check.due("those coming together, half, cut", x.power(), 33 + (44 + 55 + 20 + 6) / 2);
        check.due("ours in 1", x.odds(0), 2 * 95 * 2 / 3);
        check.due("against in 1", x.odds(1), 200);
        x.ask(0, 0);
        x.ask(2, 151);
        check.due("ours in 0", x.odds(0), 63);
        check.due("against in 0", x.odds(1), 302);
        x.ask(0, 2);
        check.due("ours in 2", x.odds(0), 190);
        check.due("against in 2", x.odds(1), 100);
        x.ask(3, 0);
        check.due("power without the keeper", x.power(), 125);
        check.due("ours without", x.odds(0), 250);
        check.due("against without: cut, then 5 times", x.odds(1), 500);
        check.due("bad", x.odds(2), -2);
        check.due("bad", x.odds(-1), -2);
        check.due("refusals", x.status(12), 2);
    }

    private static void way() {
        OverTheBoards x = Check.from("player 0 33 0;player 4 44 0;player 5 55 0;player 3 20 0;line 0 0 1 2;line 1 3;line 2 0 3");
        check.due("from nobody", x.way(1), 3);
        x.whistle(0);
        check.due("two deep ones leave", x.way(1), 1);
        x.ask(1, 1);
        check.due("far", x.way(1), 3);
        x.ask(0, 2);
        check.due("far, puck ahead", x.way(1), 1);
        x.ask(1, 0);
        check.due("1 at least", x.way(1), 1);
        check.due("nobody new", x.way(0), 0);
        x.line(0, 1);
        check.due("nobody new, though some leave", x.way(0), 0);
        x.ask(0, 0);
        check.due("deep ones who stay do not count", x.way(2), 1);
        x.line(2, 0b1110);
        check.due("deep ones who stay do not count", x.way(2), 3);
        check.due("line 4", x.way(4), -2);
        check.due("line -1", x.way(-1), -2);
        check.due("nobody in it", x.way(3), -5);
        check.due("bad", x.status(12), 2);
        check.due("stuck", x.status(15), 1);
    }

    private static void five() {
        OverTheBoards x = new OverTheBoards();
        check.due("nobody", x.five(), -5);
        check.due("stuck", x.status(15), 1);
        x.player(0, 50, 0);
        check.due("one alone", x.five(), 1);
        Check.rink(x, "player 0 50 0;player 0 50 0");
        check.due("fewer than five", x.five(), 0b111);
        Check.rink(x, "player 0 50 0;player 0 50 0;player 0 50 0;player 0 50 0");
        check.due("the least as bits", x.five(), 0b11111);
        x.player(5, 43, 0);
        check.due("a caller makes 51", x.five(), 0b10001111);
        x.player(2, 44, 7);
        check.due("an early one makes 51", x.five(), 0b110000111);
        x.tell(8, 1, 10);
        check.due("not if tired", x.five(), 0b10001111);
        x.player(0, 99, 0);
        check.due("of ten", x.five(), 0b1010000111);
    }

    private static void best() {
        OverTheBoards x = Check.from(SIX);
        check.due("no line", x.best(0), -5);
        check.due("no line", x.best(1), -5);
        check.due("bad", x.best(2), -2);
        check.due("bad", x.best(-1), -2);
        x.line(1, 0b1);
        x.line(2, 0b10);
        x.line(3, 0b100000);
        check.due("freshest, the first", x.best(0), 1);
        x.line(0, 0b1);
        check.due("freshest, the very first", x.best(0), 0);
        x.line(0, 0b1000);
        check.due("strongest, the very first", x.best(1), 0);
        x.line(0, 0);
        check.due("strongest", x.best(1), 2);
        x.tell(0, 1, 5);
        x.tell(1, 1, 20);
        check.due("freshest", x.best(0), 3);
        check.due("strongest", x.best(1), 3);
        x.tell(1, 1, 17);
        check.due("of several the first", x.best(1), 2);
        check.due("stuck", x.status(15), 2);
        check.due("bad", x.status(12), 2);
    }

    private static void rests() {
        OverTheBoards x = Check.from(SIX + ";line 0 1 3;on 0");
        int[] want = {0, 31, 0, 16, 0, 0};
        x.tell(1, 1, 31);
        x.tell(3, 1, 31);
        for (int p = 0; p < 6; p++) check.due("rests " + p, x.rests(p), want[p]);
        x.tell(3, 1, 30);
        check.due("a star at 30", x.rests(3), 15);
        check.due("bad", x.rests(6), -2);
        check.due("bad", x.rests(-1), -2);
        check.due("refusals", x.status(12), 2);
    }
}
