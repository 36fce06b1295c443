import java.util.ArrayList;
import java.util.List;
import java.util.regex.Matcher;
import java.util.regex.Pattern;

/**
 * The document once more, as plainly as can be: every SECOND is walked, every MEETS is asked, nothing is
 * saved up. It knows no refusals; ModelTest asks it only what may be asked.
 */
final class Model {
    static final class Player {
        int kind, skill, a, tired;
        boolean on, coming;

        Player copy() {
            Player p = new Player();
            p.kind = kind;
            p.skill = skill;
            p.a = a;
            p.tired = tired;
            p.on = on;
            p.coming = coming;
            return p;
        }

        int more() { return kind == 1 || kind == 3 ? 3 : 2; }
        int less() { return kind == 3 ? 2 : 1; }
        int legs() { return skill * (100 - tired) / 100; }
    }

    final List<Player> players = new ArrayList<>();
    final List<List<Integer>> lines = new ArrayList<>();
    int seconds, third = 1, half, theirs = 150, second, minus, ours, against, seed = 1;
    boolean keeper = true;

    Model() {
        for (int l = 0; l < 4; l++) lines.add(new ArrayList<>());
    }

    Model copy() {
        Model m = new Model();
        for (Player p : players) m.players.add(p.copy());
        for (int l = 0; l < 4; l++) m.lines.get(l).addAll(lines.get(l));
        m.seconds = seconds;
        m.third = third;
        m.half = half;
        m.theirs = theirs;
        m.second = second;
        m.minus = minus;
        m.ours = ours;
        m.against = against;
        m.seed = seed;
        m.keeper = keeper;
        return m;
    }

    void add(int kind, int skill, int a) {
        Player p = new Player();
        p.kind = kind;
        p.skill = skill;
        p.a = a;
        players.add(p);
    }

    int bits(int l) {
        int set = 0;
        for (int p : lines.get(l)) set |= 1 << p;
        return set;
    }

    void lineIs(int l, int set) {
        lines.get(l).clear();
        for (int p = 0; p < players.size(); p++) if ((set >> p & 1) == 1) lines.get(l).add(p);
    }

    int ice() {
        int set = 0;
        for (int p = 0; p < players.size(); p++) if (players.get(p).on) set |= 1 << p;
        return set;
    }

    int coming() {
        int set = 0;
        for (int p = 0; p < players.size(); p++) if (players.get(p).coming) set |= 1 << p;
        return set;
    }

    int others(Player p) {
        int n = 0;
        for (Player q : players) if (q != p && q.on) n++;
        return n;
    }

    int powerOf(Player p) {
        if (p.kind == 2 && p.tired < 10) return p.legs() + p.a;
        if (p.kind == 5) return p.legs() + 2 * others(p);
        return p.legs();
    }

    int power() {
        int whole = 0, half = 0;
        for (Player p : players) {
            if (p.on && p.coming) half += powerOf(p);
            else if (p.on) whole += powerOf(p);
        }
        return whole + half / 2 + (keeper ? 0 : 30);
    }

    int oddsOurs() { return 2 * power() * (third + 1) / 3; }
    int oddsAgainst() { return (keeper ? 1 : 5) * (2 * theirs * (3 - third) / 3); }

    void whistle(List<Integer> line) {
        for (Player p : players) p.on = p.coming = false;
        for (int i : line) players.get(i).on = true;
        seconds = 0;
    }

    int way(int l) {
        boolean somebody = false;
        for (int i : lines.get(l)) if (!players.get(i).on) somebody = true;
        if (!somebody) return 0;
        int way = 3;
        if (half == 1) way += 2;
        if (third == 2) way -= 2;
        for (int i = 0; i < players.size(); i++) {
            Player p = players.get(i);
            if (p.on && !lines.get(l).contains(i) && (p.kind == 4 || p.kind == 5)) way -= 1;
        }
        return way < 1 ? 1 : way;
    }

    int change(int l) {
        int way = way(l);
        List<Integer> new_ = new ArrayList<>();
        for (int i : lines.get(l)) if (!players.get(i).on) new_.add(i);
        whistle(lines.get(l));
        for (int i : new_) players.get(i).coming = true;
        seconds = way;
        return way;
    }

    /** A SECOND of thought: ODDS ours, ODDS against. */
    int[] second() {
        for (Player p : players) {
            if (p.on) {
                for (int i = 0; i < p.more(); i++) if (p.tired < 100) p.tired++;
            } else {
                for (int i = 0; i < p.less(); i++) if (p.tired > 0) p.tired--;
            }
        }
        int[] odds = {oddsOurs(), oddsAgainst()};
        if (seconds > 0) seconds--;
        if (seconds == 0) for (Player p : players) p.coming = false;
        return odds;
    }

    int gains(int n) {
        int sum = 0;
        for (int s = 0; s < n; s++) {
            int[] odds = second();
            sum += odds[0] - odds[1];
        }
        return sum;
    }

    int draw(int n) {
        seed = seed * 1103515245 + 12345;
        return (seed >> 16 & 0xffff) % n;
    }

    int skate(int n) {
        int goals = 0;
        for (int s = 0; s < n; s++) {
            boolean fewer = coming() != 0;
            int[] odds = second();
            second++;
            if (fewer) minus++;
            int d = draw(50000);
            if (d < odds[0]) { ours++; goals++; third = 1; }
            else if (d < odds[0] + odds[1]) { against++; goals++; third = 1; }
        }
        return goals;
    }

    int tiredTogether(int l) {
        int sum = 0;
        for (int i : lines.get(l)) sum += players.get(i).tired;
        return sum;
    }

    int freshest() {
        int best = -1;
        for (int l = 3; l >= 0; l--) {
            if (lines.get(l).isEmpty()) continue;
            if (best < 0 || tiredTogether(l) <= tiredTogether(best)) best = l;
        }
        return best;
    }

    int powerBy(int l) {
        Model m = copy();
        m.whistle(m.lines.get(l));
        return m.power();
    }

    int strongest() {
        int best = -1;
        for (int l = 3; l >= 0; l--) {
            if (lines.get(l).isEmpty()) continue;
            if (best < 0 || powerBy(l) >= powerBy(best)) best = l;
        }
        return best;
    }

    int game(int n) {
        int ahead = ours - against;
        for (int i = 0; i < n; i++) {
            third = draw(3);
            change(freshest());
            skate(20);
        }
        return ours - against - ahead;
    }

    int shifts(int k, int n) {
        List<Integer> turns = new ArrayList<>();
        for (int l = 0; l < 4; l++) if (!lines.get(l).isEmpty()) turns.add(l);
        Model m = copy();
        m.whistle(m.lines.get(turns.get(0)));
        int sum = 0;
        for (int s = 0; s < n; s++) {
            if (s > 0 && s % k == 0) m.change(turns.get(s / k % turns.size()));
            sum += m.gains(1);
        }
        return sum;
    }

    int bestShift(int n) {
        int best = 99, most = shifts(99, n);
        for (int k = 98; k >= 5; k--) {
            int gains = shifts(k, n);
            if (gains >= most) { best = k; most = gains; }
        }
        return best;
    }

    int changeNow(int l, int n, int third) {
        Model with = copy(), without = copy();
        with.third = without.third = third;
        with.change(l);
        return with.gains(n) - without.gains(n);
    }

    int meets(int l, int v) {
        Model m = copy();
        m.theirs = v;
        m.whistle(m.lines.get(l));
        return m.gains(40);
    }

    /** The LINE and its least MEETS. */
    int[] match(long[] strengths) {
        int[] best = null;
        for (int l = 0; l < 4; l++) {
            if (lines.get(l).isEmpty()) continue;
            int least = Integer.MAX_VALUE;
            for (long v : strengths) least = Math.min(least, meets(l, (int) v));
            if (best == null || least > best[1]) best = new int[] {l, least};
        }
        return best;
    }

    int pull(int n, int part) {
        int[][] sums = new int[2][2];
        for (int k = 0; k < 2; k++) {
            Model m = copy();
            m.keeper = k == 1;
            for (int s = 0; s < n; s++) {
                int[] odds = m.second();
                sums[k][0] += odds[0];
                sums[k][1] += odds[1];
            }
        }
        return sums[0][0] - sums[1][0] - (int) ((long) part * (sums[0][1] - sums[1][1]) / 100);
    }

    /** Spells of the four LINES, then GAINS. */
    int[] minutes() {
        int[] best = null;
        for (int a = 0; a <= 8; a++) for (int b = 0; a + b <= 8; b++) for (int c = 0; a + b + c <= 8; c++) {
            int[] row = {a, b, c, 8 - a - b - c, 0};
            boolean may = true;
            Model m = copy();
            for (int l = 0; l < 4; l++) {
                if (row[l] > 0 && lines.get(l).isEmpty()) { may = false; break; }
                for (int i = 0; i < row[l]; i++) {
                    m.whistle(m.lines.get(l));
                    row[4] += m.gains(40);
                }
            }
            if (may && (best == null || row[4] > best[4])) best = row;
        }
        return best;
    }

    Model without(int p) {
        Model m = copy();
        m.players.get(p).on = m.players.get(p).coming = false;
        return m;
    }

    int missedLeast() {
        int who = -1;
        for (int p = players.size() - 1; p >= 0; p--) {
            if (!players.get(p).on) continue;
            if (who < 0 || without(p).power() >= without(who).power()) who = p;
        }
        return who;
    }

    int five() {
        int best = -1, most = -1, wanted = Math.min(5, players.size());
        for (int set = (1 << players.size()) - 1; set > 0; set--) {
            if (Integer.bitCount(set) != wanted) continue;
            Model m = copy();
            for (int p = 0; p < players.size(); p++) {
                m.players.get(p).on = (set >> p & 1) == 1;
                m.players.get(p).coming = false;
            }
            if (m.power() >= most) { best = set; most = m.power(); }
        }
        return best;
    }

    int longest(long[] book, int player) {
        int longest = 0;
        for (int i = 0; i < book.length; i++) {
            int j = i;
            while (j < book.length && lines.get((int) book[j]).contains(player)) j++;
            longest = Math.max(longest, 20 * (j - i));
        }
        return longest;
    }

    int cost(long[] book, int player) {
        Model m = copy();
        Player p = m.players.get(player);
        p.tired = 0;
        for (long l : book) {
            m.whistle(m.lines.get((int) l));
            m.gains(20);
        }
        return p.skill - p.legs();
    }

    // ---- a RINK from a text

    private static final Pattern TOKEN = Pattern.compile(" *(?:([a-z]+)|([0-9]+)|(;)|(.)|$)", Pattern.DOTALL);

    private static final class Fault extends RuntimeException {
        private static final long serialVersionUID = 1;
        final int place;

        Fault(int place) {
            this.place = place;
        }
    }

    private record Token(String sort, String text, int place) { }

    /** How many STATEMENTS, this being changed; or -20 less the FAULT, and nothing is to be made of this. */
    int read(String text) {
        List<Token> tokens = new ArrayList<>();
        Matcher m = TOKEN.matcher(text);
        int at = 0;
        while (at < text.length() && m.find(at) && m.end() > at) {
            at = m.end();
            for (int g = 1; g <= 4; g++) {
                if (m.group(g) != null) tokens.add(new Token(".wn;?".substring(g, g + 1), m.group(g), m.start(g)));
            }
        }
        tokens.add(new Token("$", "", text.length()));
        try {
            int statements = 0;
            for (int i = 0; ; i++) {
                i = statement(tokens, i);
                statements++;
                Token t = tokens.get(i);
                if (t.sort.equals("$")) return statements;
                if (!t.sort.equals(";")) throw new Fault(t.place);
            }
        } catch (Fault f) {
            return -20 - f.place;
        }
    }

    private int number(Token t, int least, int most) {
        if (!t.sort.equals("n") || t.text.length() > 3) throw new Fault(t.place);
        int v = Integer.parseInt(t.text);
        if (v < least || v > most) throw new Fault(t.place);
        return v;
    }

    private int statement(List<Token> ts, int i) {
        Token word = ts.get(i);
        if (!word.sort.equals("w")) throw new Fault(word.place);
        switch (word.text) {
            case "player" -> {
                if (players.size() == 10) throw new Fault(word.place);
                int k = number(ts.get(i + 1), 0, 5);
                int s = number(ts.get(i + 2), 1, 99);
                add(k, s, number(ts.get(i + 3), 0, 9));
                return i + 4;
            }
            case "line" -> {
                int l = number(ts.get(i + 1), 0, 3);
                List<Integer> who = new ArrayList<>();
                int j = i + 2;
                while (who.isEmpty() || ts.get(j).sort.equals("n")) {
                    int p = number(ts.get(j), 0, players.size() - 1);
                    if (who.contains(p) || who.size() == 5) throw new Fault(ts.get(j).place);
                    who.add(p);
                    j++;
                }
                lines.get(l).clear();
                lines.get(l).addAll(who);
                return j;
            }
            case "on" -> {
                int l = number(ts.get(i + 1), 0, 3);
                if (lines.get(l).isEmpty()) throw new Fault(ts.get(i + 1).place);
                whistle(lines.get(l));
            }
            case "third" -> third = number(ts.get(i + 1), 0, 2);
            case "half" -> half = number(ts.get(i + 1), 0, 1);
            case "theirs" -> theirs = number(ts.get(i + 1), 1, 999);
            case "skate" -> skate(number(ts.get(i + 1), 1, 99));
            default -> throw new Fault(word.place);
        }
        return i + 2;
    }
}
