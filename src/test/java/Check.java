/** Counts answers that are not as due; each test ends with end(), which tells them. */
final class Check {
    private int right = 0;
    private int wrong = 0;

    void due(String call, long got, long want) {
        if (got == want) {
            right++;
        } else {
            wrong++;
            if (wrong <= 40) System.out.println(call + " answered " + got + ", due is " + want);
        }
    }

    void end(String test) {
        System.out.println(test + ": " + right + " answers as due, " + wrong + " not");
        if (wrong != 0) System.exit(1);
    }

    static int feed(OverTheBoards x, String text) {
        int size = 0;
        for (int i = 0; i < text.length(); i++) size = x.feed(text.charAt(i));
        return size;
    }

    static int rink(OverTheBoards x, String text) {
        feed(x, text);
        return x.rink();
    }

    static OverTheBoards from(String text) {
        OverTheBoards x = new OverTheBoards();
        if (rink(x, text) < 1) throw new IllegalStateException("no rink: " + text);
        return x;
    }
}
