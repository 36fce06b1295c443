/** Promises 1 to 8: a new object, ROWS and PLAYERS in SHELVES. */
public final class ShelvesTest {
    private static final Check check = new Check();

    public static void main(String[] args) {
        newObject();
        row();
        set();
        copy();
        copyRefused();
        element();
        holdsAndShow();
        says();
        saysRefused();
        check.end("ShelvesTest");
    }

    private static void newObject() {
        OverTheBoards x = new OverTheBoards();
        int[] first = {0, 0, 0, 0, 1, 0, 150, 1, 0, 0, 0, 0, 0, 0, 0, 0, 0, 0, 1, 0};
        for (int i = 0; i < first.length; i++) check.due("new: status(" + i + ")", x.status(i), first[i]);
        for (int s = 0; s < 8; s++) check.due("new: holds(" + s + ")", x.holds(s), -1);
        for (int l = 0; l < 4; l++) check.due("new: lineOf(" + l + ", 0)", x.lineOf(l, 0), 0);
        check.due("new: wipe()", x.wipe(), 0);
        check.due("NONE", OverTheBoards.NONE, -1);
    }

    private static void row() {
        OverTheBoards x = new OverTheBoards();
        check.due("row(0, 0, 0)", x.row(0, 0, 0), 1);
        check.due("row(7, 4, 40)", x.row(7, 4, 40), 1);
        check.due("row(8, 0, 0)", x.row(8, 0, 0), -2);
        check.due("row(-1, 0, 0)", x.row(-1, 0, 0), -2);
        check.due("row(0, 5, 0)", x.row(0, 5, 0), -2);
        check.due("row(0, -1, 0)", x.row(0, -1, 0), -2);
        check.due("row(7, 0, 41)", x.row(7, 0, 41), -2);
        check.due("row(7, 0, -1)", x.row(7, 0, -1), -2);
        check.due("a refused row leaves the old", x.holds(7), 4);
        check.due("refusals", x.status(12), 6);
        x.set(7, 3, 9);
        x.row(7, 2, 4);
        check.due("a new row is 0", x.element(7, 3), 0);
        check.due("shelves", x.status(19), 2);
    }

    private static void set() {
        OverTheBoards x = new OverTheBoards();
        long[][] put = {{300, 44}, {200, -56}, {0x18000L, -32768}, {0x7fff0001L, 1}, {(1L << 32) + 5, 5},
            {0xffffffffL, -1}, {Long.MIN_VALUE, Long.MIN_VALUE}, {-7, -7}, {256, 1}, {0, 0}};
        for (int i = 0; i < put.length; i++) {
            x.row(i / 2, i / 2, 2);
            check.due("set", x.set(i / 2, 1, put[i][0]), 1);
            check.due("element of sort " + i / 2, x.element(i / 2, 1), put[i][1]);
            check.due("the other one", x.element(i / 2, 0), 0);
        }
        check.due("set of no shelf", x.set(8, 0, 1), -2);
        check.due("set of nothing", x.set(7, 99, 1), -4);
        x.player(0, 1, 0);
        x.show(7, 0);
        check.due("set of a player", x.set(7, 99, 1), -3);
        check.due("set of -1", x.set(0, -1, 1), -2);
        check.due("set of 2 of 2", x.set(0, 2, 1), -2);
        check.due("bad", x.status(12), 3);
        check.due("other", x.status(13), 1);
        check.due("nothing", x.status(14), 1);
    }

    private static OverTheBoards fiveInts() {
        OverTheBoards x = new OverTheBoards();
        x.row(0, 2, 5);
        for (int i = 0; i < 5; i++) x.set(0, i, i + 1);
        return x;
    }

    private static void elements(OverTheBoards x, int s, String name, long... want) {
        for (int i = 0; i < want.length; i++) check.due(name + " " + i, x.element(s, i), want[i]);
    }

    private static void copy() {
        OverTheBoards x = fiveInts();
        check.due("copy up", x.copy(0, 0, 0, 1, 4), 4);
        elements(x, 0, "up", 1, 1, 2, 3, 4);
        x = fiveInts();
        check.due("copy down", x.copy(0, 0, 2, 0, 3), 3);
        elements(x, 0, "down", 3, 4, 5, 4, 5);
        x.row(1, 2, 3);
        check.due("copy over", x.copy(0, 1, 4, 2, 1), 1);
        elements(x, 1, "over", 0, 0, 5);
        check.due("copy of none", x.copy(0, 1, 5, 3, 0), 0);
    }

    private static void copyRefused() {
        OverTheBoards x = fiveInts();
        x.player(0, 1, 0);
        x.show(1, 0);
        x.row(2, 3, 5);
        x.row(3, 2, 3);
        check.due("no shelf p", x.copy(8, 1, 0, 0, 0), -2);
        check.due("no shelf q", x.copy(1, -1, 0, 0, 0), -2);
        check.due("player, nothing", x.copy(1, 7, 0, 0, 0), -3);
        check.due("nothing, player", x.copy(7, 1, 0, 0, 0), -3);
        check.due("two sorts", x.copy(0, 2, 9, 9, 9), -3);
        check.due("row, nothing", x.copy(0, 7, 9, 9, 9), -4);
        check.due("nothing, row", x.copy(7, 0, 9, 9, 9), -4);
        int[][] bad = {{-1, 0, 1}, {0, -1, 1}, {0, 0, -1}, {0, 0, 4}, {3, 0, 3}, {0, 2, 2}, {6, 0, 0}, {0, 4, 0},
            {Integer.MAX_VALUE, 0, 1}, {1, 1, Integer.MAX_VALUE}, {0, 0, Integer.MIN_VALUE}};
        for (int[] b : bad) check.due("bad copy", x.copy(0, 3, b[0], b[1], b[2]), -2);
        elements(x, 3, "untouched", 0, 0, 0);
        check.due("bad", x.status(12), 2 + bad.length);
        check.due("other", x.status(13), 3);
        check.due("nothing", x.status(14), 2);
    }

    private static void element() {
        OverTheBoards x = fiveInts();
        x.player(0, 1, 0);
        x.show(1, 0);
        check.due("element", x.element(0, 4), 5);
        check.due("element 5 of 5", x.element(0, 5), 0);
        check.due("element -1", x.element(0, -1), 0);
        check.due("of a player", x.element(1, 0), 0);
        check.due("of nothing", x.element(2, 0), 0);
        check.due("of no shelf", x.element(8, 0), 0);
        check.due("of no shelf", x.element(-1, 0), 0);
        x.row(0, 2, 3);
        check.due("a shorter row", x.element(0, 4), 0);
        x.row(3, 3, 40);
        check.due("the last of forty", x.set(3, 39, 7), 1);
        check.due("the last of forty", x.element(3, 39), 7);
        check.due("behind the last of forty", x.element(3, 40), 0);
        for (int r = 12; r <= 16; r++) check.due("nothing is refused", x.status(r), 0);
    }

    private static void holdsAndShow() {
        OverTheBoards x = new OverTheBoards();
        for (int sort = 0; sort < 5; sort++) {
            x.row(sort, sort, 1);
            check.due("holds a row", x.holds(sort), sort);
        }
        check.due("holds of no shelf", x.holds(8), -1);
        check.due("holds of no shelf", x.holds(-1), -1);
        check.due("nobody to show", x.show(0, 0), -2);
        x.player(0, 1, 0);
        x.player(1, 1, 0);
        check.due("show", x.show(0, 1), 1);
        check.due("holds 1", x.holds(0), 11);
        check.due("show", x.show(7, 0), 1);
        check.due("holds 0", x.holds(7), 10);
        check.due("show 2 of 2", x.show(0, 2), -2);
        check.due("show -2", x.show(0, -2), -2);
        check.due("show in no shelf", x.show(8, 0), -2);
        check.due("shelves", x.status(19), 6);
        check.due("show NONE", x.show(0, -1), 1);
        check.due("holds nothing", x.holds(0), -1);
        check.due("show NONE again", x.show(0, -1), 1);
        check.due("shelves", x.status(19), 5);
        check.due("bad", x.status(12), 4);
    }

    private static void says() {
        OverTheBoards x = Check.from("player 0 60 0;player 1 80 2;player 2 50 7;player 3 95 1;player 4 70 0;player 5 66 3");
        for (int p = 0; p < 6; p++) x.show(p, p);
        x.tell(3, 1, 50);
        x.line(0, 0b110110);
        x.whistle(0);
        int[] legs = {60, 80, 50, 47, 70, 66};
        for (int p = 0; p < 6; p++) check.due("legs of " + p, x.says(p, 0), legs[p]);
        check.due("late as late", x.says(1, 1), 3);
        check.due("star as late", x.says(3, 1), 3);
        check.due("star as star", x.says(3, 3), 3);
        check.due("early", x.says(2, 2), 57);
        check.due("deep on", x.says(4, 4), 1);
        check.due("caller as deep", x.says(5, 4), 1);
        check.due("caller on: others", x.says(5, 5), 3);
        x.line(0, 0b001111);
        x.whistle(0);
        check.due("deep off", x.says(4, 4), 0);
        check.due("caller off: others", x.says(5, 5), 4);
        x.tell(2, 1, 10);
        check.due("early, tired", x.says(2, 2), 45);
    }

    private static void saysRefused() {
        OverTheBoards x = Check.from("player 0 60 0;player 1 80 2;player 2 50 7;player 3 95 1;player 4 70 0;player 5 66 3");
        boolean[][] under = {{true, false, false, false, false, false}, {true, true, false, false, false, false},
            {true, false, true, false, false, false}, {true, true, false, true, false, false},
            {true, false, false, false, true, false}, {true, false, false, false, true, true}};
        int other = 0;
        for (int p = 0; p < 6; p++) {
            x.show(p, p);
            for (int kind = 0; kind < 6; kind++) {
                if (!under[p][kind]) other++;
                check.due(p + " as " + kind, x.says(p, kind) == -3 ? 1 : 0, under[p][kind] ? 0 : 1);
            }
        }
        check.due("other", x.status(13), other);
        check.due("no shelf", x.says(8, 0), -2);
        check.due("no kind", x.says(7, 6), -2);
        check.due("no kind", x.says(7, -1), -2);
        check.due("nothing", x.says(7, 0), -4);
        x.row(7, 0, 1);
        check.due("a row", x.says(7, 0), -3);
    }
}
