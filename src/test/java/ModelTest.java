import java.util.Random;

/**
 * Long runs of drawn calls, each answer held against the plain Model; thought must change nothing. The runs are
 * longer than the 512 calls that the document promises, to come to far states: the class doesn't count its calls.
 */
public final class ModelTest {
    private static final String[] WORDS = {"player", "line", "on", "third", "half", "theirs", "skate"};

    private final Check check;
    private final Random random;
    private final OverTheBoards x = new OverTheBoards();
    private Model model = new Model();
    private Model kept = null;

    private ModelTest(Check check, long seed) {
        this.check = check;
        random = new Random(seed);
    }

    public static void main(String[] args) {
        Check all = new Check();
        for (int run = 0; run < 200; run++) {
            ModelTest test = new ModelTest(all, run);
            test.build();
            for (int i = 0; i < 60; i++) {
                test.act();
                test.compareState(all, run);
                test.think(all, run);
                test.compareState(all, run);
            }
        }
        all.end("ModelTest");
    }

    private int in(int least, int most) {
        return least + random.nextInt(most - least + 1);
    }

    private void build() {
        int n = in(0, 10);
        for (int i = 0; i < n; i++) {
            int kind = in(0, 5), skill = in(1, 99), a = in(0, 9);
            x.player(kind, skill, a);
            model.add(kind, skill, a);
        }
        for (int l = 0; l < 4; l++) drawLine(l);
    }

    private int drawSet() {
        int set = 0;
        for (int i = in(0, 7); i > 0 && !model.players.isEmpty(); i--) {
            int more = set | 1 << in(0, model.players.size() - 1);
            if (Integer.bitCount(more) <= 5) set = more;
        }
        return set;
    }

    private int drawLine(int l) {
        int set = drawSet();
        int was = x.line(l, set);
        model.lineIs(l, set);
        return was;
    }

    private boolean anyLine() {
        return model.freshest() >= 0;
    }

    private boolean hasPlayers(int l) {
        return !model.lines.get(l).isEmpty();
    }

    private void act() {
        int l = in(0, 3), n = in(1, 30);
        switch (in(0, 13)) {
            case 0: if (hasPlayers(l)) { told("whistle", x.whistle(l), whistled(l)); } break;
            case 1:
            case 2: if (hasPlayers(l)) { told("change", x.change(l), model.change(l)); } break;
            case 3:
            case 4: told("skate", x.skate(n), model.skate(n)); break;
            case 5: if (anyLine()) { n = in(1, 20); told("game", x.game(n), model.game(n)); } break;
            case 6: told("pause", x.pause(n), paused(n)); break;
            case 7: n = random.nextInt(); told("seed", x.seed(n), model.seed); model.seed = n; break;
            case 8: x.image(); kept = model.copy(); break;
            case 9: if (kept != null && in(0, 2) == 0) { x.back(); model = kept.copy(); } break;
            case 10: asked(); break;
            case 11: toldPlayer(); break;
            case 12: n = model.bits(l); told("line", drawLine(l), n); break;
            default: read(); break;
        }
    }

    private void told(String name, long got, long want) {
        check.due(name, got, want);
    }

    private int whistled(int l) {
        model.whistle(model.lines.get(l));
        return model.power();
    }

    private int paused(int n) {
        int still = 0;
        for (Model.Player p : model.players) {
            p.tired = Math.max(0, p.tired - n);
            if (p.tired > 0) still++;
        }
        return still;
    }

    private void asked() {
        int what = in(0, 3);
        int v = what == 0 ? in(0, 2) : what == 2 ? in(1, 999) : in(0, 1);
        x.ask(what, v);
        if (what == 0) model.third = v;
        if (what == 1) model.half = v;
        if (what == 2) model.theirs = v;
        if (what == 3) model.keeper = v == 1;
    }

    private void toldPlayer() {
        if (model.players.isEmpty()) return;
        int p = in(0, model.players.size() - 1), what = in(0, 1), v = what == 0 ? in(1, 99) : in(0, 100);
        x.tell(p, what, v);
        if (what == 0) model.players.get(p).skill = v;
        else model.players.get(p).tired = v;
    }

    private String text() {
        StringBuilder b = new StringBuilder();
        for (int i = in(0, 4); i >= 0; i--) {
            String word = WORDS[in(0, WORDS.length - 1)];
            b.append(word).append(' ');
            switch (word) {
                case "player": b.append(in(0, 5)).append(' ').append(in(1, 99)).append(' ').append(in(0, 9)); break;
                case "line":
                    b.append(in(0, 3));
                    for (int j = in(1, 4); j > 0; j--) b.append(' ').append(in(0, Math.max(0, model.players.size() - 1)));
                    break;
                case "on": b.append(in(0, 3)); break;
                case "third": b.append(in(0, 2)); break;
                case "half": b.append(in(0, 1)); break;
                case "theirs": b.append(in(1, 999)); break;
                default: b.append(in(1, 20)); break;
            }
            if (i > 0) b.append(in(0, 1) == 0 ? ";" : " ; ");
        }
        if (in(0, 2) == 0) {
            int at = in(0, b.length() - 1);
            String odd = "; 0123456789az\n{";
            char c = odd.charAt(in(0, odd.length() - 1));
            if (in(0, 1) == 0) b.setCharAt(at, c);
            else b.insert(at, c);
        }
        return b.toString();
    }

    private void read() {
        String text = text();
        if (text.length() > 250) return;
        Model read = model.copy();
        int want = read.read(text);
        told("rink of '" + text + "'", Check.rink(x, text), want);
        if (want > 0) model = read;
    }

    private void compareState(Check all, int run) {
        int[] want = {model.players.size(), model.ice(), model.coming(), model.seconds, model.third, model.half,
            model.theirs, model.keeper ? 1 : 0, model.second, model.minus, model.ours, model.against};
        for (int i = 0; i < want.length; i++) all.due("run " + run + ": status(" + i + ")", x.status(i), want[i]);
        all.due("run " + run + ": status(18)", x.status(18), model.seed);
        for (int i = 0; i < model.players.size(); i++) {
            Model.Player p = model.players.get(i);
            int[] of = {p.kind, p.skill, p.a, p.tired, p.on ? 1 : 0, p.coming ? 1 : 0, p.legs(), model.powerOf(p)};
            for (int w = 0; w < 8; w++) all.due("run " + run + ": playerOf(" + i + ", " + w + ")", x.playerOf(i, w), of[w]);
            int rests = 0;
            for (int t = p.tired; t > 0; t -= p.less()) rests++;
            all.due("run " + run + ": rests(" + i + ")", x.rests(i), rests);
        }
        for (int l = 0; l < 4; l++) all.due("run " + run + ": lineOf(" + l + ", 0)", x.lineOf(l, 0), model.bits(l));
        all.due("run " + run + ": power()", x.power(), model.power());
        all.due("run " + run + ": odds(0)", x.odds(0), model.oddsOurs());
        all.due("run " + run + ": odds(1)", x.odds(1), model.oddsAgainst());
    }

    private void think(Check all, int run) {
        String at = "run " + run + ": ";
        int n = in(0, 80), l = in(0, 3), m = in(0, 3);
        Model behind = model.copy();
        int gains = behind.gains(n);
        all.due(at + "gains", x.gains(n), gains);
        all.due(at + "behind power", x.behind(n, -1), behind.power());
        int tiredest = -1;
        for (int p = 0; p < model.players.size(); p++) {
            all.due(at + "behind", x.behind(n, p), behind.players.get(p).tired);
            if (tiredest < 0 || behind.players.get(p).tired > behind.players.get(tiredest).tired) tiredest = p;
        }
        all.due(at + "tiredest", x.tiredest(n), tiredest < 0 ? -5 : tiredest);
        all.due(at + "five", x.five(), model.players.isEmpty() ? -5 : model.five());
        int part = in(0, 100);
        all.due(at + "pull", x.pull(n, part), model.pull(n, part));
        thinkThirds(all, at, n);
        all.due(at + "penalty who", x.penalty(-1), model.ice() == 0 ? -1000000005 : model.missedLeast());
        all.due(at + "penalty", x.penalty(n), model.ice() == 0 ? -1000000005 : model.without(model.missedLeast()).gains(n));
        if (hasPlayers(l)) thinkLine(all, at, n, l);
        if (hasPlayers(l) && hasPlayers(m)) {
            Model two = model.copy();
            two.whistle(two.lines.get(l));
            int want = two.gains(n);
            two.change(m);
            all.due(at + "two", x.two(l, m, n), want + two.gains(n));
        }
        if (anyLine()) thinkLines(all, at, n);
    }

    private void thinkThirds(Check all, String at, int n) {
        int best = -1, most = 0;
        for (int t = 0; t < 3; t++) {
            Model there = model.copy();
            there.third = t;
            int gains = there.gains(n);
            if (best < 0 || gains > most) { best = t; most = gains; }
        }
        all.due(at + "third", x.third(n), best);
        int theirs = x.theirsFor(n);
        Model with = model.copy();
        with.theirs = Math.max(1, theirs);
        all.due(at + "theirsFor " + theirs + " gains", with.gains(n) >= 0 ? 1 : 0, theirs > 0 ? 1 : 0);
        with = model.copy();
        with.theirs = theirs + 1;
        all.due(at + "theirsFor " + theirs + " is greatest", theirs == 999 || with.gains(n) < 0 ? 1 : 0, 1);
    }

    private void thinkLine(Check all, String at, int n, int l) {
        all.due(at + "way", x.way(l), model.way(l));
        all.due(at + "lineOf 1", x.lineOf(l, 1), model.tiredTogether(l));
        int skill = 0;
        for (int p : model.lines.get(l)) skill += model.players.get(p).skill;
        all.due(at + "lineOf 2", x.lineOf(l, 2), skill);
        all.due(at + "lineOf 3", x.lineOf(l, 3), model.powerBy(l));
        int v = in(0, 300), seconds = 0;
        Model off = model.copy();
        off.whistle(java.util.List.of());
        while (off.tiredTogether(l) > v) { off.second(); seconds++; }
        all.due(at + "fresh", x.fresh(l, v), seconds);
        all.due(at + "changeNow", x.changeNow(l, n), model.changeNow(l, n, model.third));
        int best = 0;
        for (int t = 1; t < 3; t++) if (model.changeNow(l, n, t) > model.changeNow(l, n, best)) best = t;
        all.due(at + "where", x.where(l, n), best);
        v = in(1, 999);
        all.due(at + "meets", x.meets(l, v), model.meets(l, v));
    }

    private void thinkLines(Check all, String at, int n) {
        int k = in(5, 99), shelf = in(0, 7), size = in(1, 6);
        all.due(at + "shifts", x.shifts(k, 4 * n), model.shifts(k, 4 * n));
        if (in(0, 9) == 0) all.due(at + "bestShift", x.bestShift(2 * n), model.bestShift(2 * n));
        all.due(at + "best 0", x.best(0), model.freshest());
        all.due(at + "best 1", x.best(1), model.strongest());
        long[] strengths = new long[size];
        x.row(shelf, in(1, 3), size);
        for (int i = 0; i < size; i++) x.set(shelf, i, strengths[i] = in(1, 999));
        int[] match = model.match(strengths);
        all.due(at + "match 0", x.match(shelf, size, 0), match[0]);
        all.due(at + "match 1", x.match(shelf, size, 1), match[1]);
        if (in(0, 9) == 0) {
            int[] minutes = model.minutes();
            all.due(at + "minutes", x.minutes(-1), minutes[4]);
            for (int l = 0; l < 4; l++) all.due(at + "minutes " + l, x.minutes(l), minutes[l]);
        }
        thinkBook(all, at, shelf);
    }

    private void thinkBook(Check all, String at, int shelf) {
        int size = in(0, 9), player = in(0, model.players.size() - 1);
        long[] book = new long[size];
        x.row(shelf, in(0, 3), size);
        for (int i = 0; i < size; i++) {
            book[i] = in(0, 3);
            if (!hasPlayers((int) book[i])) book[i] = model.freshest();
            x.set(shelf, i, book[i]);
        }
        all.due(at + "judge", x.judge(shelf, size), -1);
        all.due(at + "booked 0", x.booked(shelf, size, player, 0), model.longest(book, player));
        all.due(at + "booked 1", x.booked(shelf, size, player, 1), model.cost(book, player));
    }
}
