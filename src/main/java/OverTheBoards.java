import java.util.Arrays;

/** Hockey lines over the boards: who is tired, who changes when, and what it brings. */
public final class OverTheBoards {
    public static final int NONE = -1;

    private static final int BAD = -2;
    private static final int OTHER = -3;
    private static final int NOTHING = -4;
    private static final int STUCK = -5;
    private static final int FULL = -6;
    /** GAINS may be below 0 themselves, so their refusals stand far below any GAINS. */
    private static final int NO_GAINS = -1000000000;
    private static final int FAULTS_FROM = -20;

    private static final int PLAYER = 0;
    private static final int LATE = 1;
    private static final int EARLY = 2;
    private static final int STAR = 3;
    private static final int DEEP = 4;
    private static final int CALLER = 5;

    private static final int MOST_PLAYERS = 10;
    private static final int MOST_SKILL = 99;
    private static final int MOST_EXTRA = 9;
    private static final int MOST_TIRED = 100;
    private static final int MOST_IN_LINE = 5;
    private static final int LINES = 4;
    private static final int THIRDS = 3;
    private static final int MIDDLE = 1;
    private static final int MOST_THEIRS = 999;
    private static final int MOST_SECONDS = 600;
    private static final int MOST_TRUE_SECONDS = 300;
    private static final int MOST_GAME = 20;
    private static final int LEAST_SHIFT = 5;
    private static final int MOST_SHIFT = 99;
    private static final int GAME_SPELL = 20;
    private static final int BOOK_SPELL = 20;
    private static final int SPELL = 40;
    private static final int SPELLS = 8;
    /** A share is a number of base 9: the spells of LINES 0, 1, 2; LINE 3 has the rest. */
    private static final int SHARES = 9 * 9 * 9;
    private static final int ODDS_OF = 50000;

    private static final int SHELVES = 8;
    private static final int SORTS = 5;
    private static final int MOST_ELEMENTS = 40;
    private static final int PLAYERS_FROM = 10;
    private static final int MOST_BYTES = 250;

    private final Rink now = new Rink();
    private final Rink thought = new Rink();
    private final Rink kept = new Rink();
    private final Rink ahead = new Rink();
    private final Tape tape = new Tape();
    private final Shelf[] shelves = new Shelf[SHELVES];
    private final int[] refused = new int[5];
    private final Pick pick = new Pick();
    private boolean isKept = false;

    public OverTheBoards() {
        for (int s = 0; s < SHELVES; s++) {
            shelves[s] = new Shelf();
        }
    }

    // ---- shelves

    public int row(int s, int sort, int n) {
        if (!isShelf(s) || !isIn(sort, 0, SORTS - 1) || !isIn(n, 0, MOST_ELEMENTS)) {
            return refuse(BAD);
        }
        shelves[s].becomeRow(sort, n);
        return 1;
    }

    public int set(int s, int i, long v) {
        if (!isShelf(s)) {
            return refuse(BAD);
        }
        Shelf shelf = shelves[s];
        if (!shelf.isRow()) {
            return refuse(shelf.whyNoRow());
        }
        if (!isIn(i, 0, shelf.size - 1)) {
            return refuse(BAD);
        }
        shelf.put(i, v);
        return 1;
    }

    public int copy(int p, int q, int i, int j, int n) {
        if (!isShelf(p) || !isShelf(q)) {
            return refuse(BAD);
        }
        Shelf from = shelves[p];
        Shelf to = shelves[q];
        boolean twoSorts = from.isRow() && to.isRow() && from.content != to.content;
        if (from.isPlayer() || to.isPlayer() || twoSorts) {
            return refuse(OTHER);
        }
        if (!from.isRow() || !to.isRow()) {
            return refuse(NOTHING);
        }
        if (!from.hasPlaces(i, n) || !to.hasPlaces(j, n)) {
            return refuse(BAD);
        }
        System.arraycopy(from.elements, i, to.elements, j, n);
        return n;
    }

    public long element(int s, int i) {
        if (!isShelf(s) || !shelves[s].isRow() || !isIn(i, 0, shelves[s].size - 1)) {
            return 0;
        }
        return shelves[s].elements[i];
    }

    public int holds(int s) {
        return isShelf(s) ? shelves[s].content : NONE;
    }

    public int show(int s, int player) {
        if (!isShelf(s) || !(player == NONE || now.isPlayer(player))) {
            return refuse(BAD);
        }
        shelves[s].content = player == NONE ? NONE : PLAYERS_FROM + player;
        return 1;
    }

    public int says(int s, int kind) {
        if (!isShelf(s) || !isIn(kind, PLAYER, CALLER)) {
            return refuse(BAD);
        }
        Shelf shelf = shelves[s];
        if (shelf.content == NONE) {
            return refuse(NOTHING);
        }
        int player = shelf.content - PLAYERS_FROM;
        if (!now.isPlayer(player) || !isUnder(now.kinds[player], kind)) {
            return refuse(OTHER);
        }
        return now.saidAs(kind, player);
    }

    // ---- who there is

    public int player(int kind, int skill, int a) {
        boolean mayBe = isIn(kind, PLAYER, CALLER) && isIn(skill, 1, MOST_SKILL) && isIn(a, 0, MOST_EXTRA);
        if (!mayBe) {
            return refuse(BAD);
        }
        if (!now.hasRoom()) {
            return refuse(FULL);
        }
        return now.addPlayer(kind, skill, a);
    }

    public int tell(int player, int what, int v) {
        if (!now.isPlayer(player)) {
            return refuse(BAD);
        }
        if (what == 0 && isIn(v, 1, MOST_SKILL)) {
            int was = now.skills[player];
            now.skills[player] = v;
            return was;
        }
        if (what == 1 && isIn(v, 0, MOST_TIRED)) {
            int was = now.tired[player];
            now.tired[player] = v;
            return was;
        }
        return refuse(BAD);
    }

    public int line(int l, int set) {
        boolean mayBe = isLine(l) && isIn(set, 0, now.everybody()) && Integer.bitCount(set) <= MOST_IN_LINE;
        if (!mayBe) {
            return refuse(BAD);
        }
        int was = now.lines[l];
        now.lines[l] = set;
        return was;
    }

    public int ask(int what, int v) {
        int was;
        if (what == 0 && isIn(v, 0, THIRDS - 1)) {
            was = now.third;
            now.third = v;
        } else if (what == 1 && isIn(v, 0, 1)) {
            was = now.half;
            now.half = v;
        } else if (what == 2 && isIn(v, 1, MOST_THEIRS)) {
            was = now.theirs;
            now.theirs = v;
        } else if (what == 3 && isIn(v, 0, 1)) {
            was = now.keeper;
            now.keeper = v;
        } else {
            was = refuse(BAD);
        }
        return was;
    }

    // ---- the tape

    public int feed(int letter) {
        if (!isIn(letter, 0, 255)) {
            return refuse(BAD);
        }
        if (tape.size >= MOST_BYTES) {
            return refuse(FULL);
        }
        return tape.append(letter);
    }

    public int wipe() {
        int was = tape.size;
        tape.size = 0;
        return was;
    }

    public int rink() {
        ahead.takeFrom(now);
        int statements = tape.readOnto(now);
        int fault = tape.start;
        tape.size = 0;
        if (statements == NONE) {
            now.takeFrom(ahead);
            refuse(BAD);
            return FAULTS_FROM - fault;
        }
        return statements;
    }

    // ---- as things stand

    public int playerOf(int player, int what) {
        if (!now.isPlayer(player)) {
            return refuse(BAD);
        }
        switch (what) {
            case 0: return now.kinds[player];
            case 1: return now.skills[player];
            case 2: return now.extras[player];
            case 3: return now.tired[player];
            case 4: return bit(now.ice, player);
            case 5: return bit(now.coming, player);
            case 6: return now.legsOf(player);
            case 7: return now.powerOf(player);
            default: return refuse(BAD);
        }
    }

    public int lineOf(int l, int what) {
        if (!isLine(l)) {
            return refuse(BAD);
        }
        int set = now.lines[l];
        switch (what) {
            case 0: return set;
            case 1: return now.tiredTogether(set);
            case 2: return now.skillTogether(set);
            case 3: return powerWith(set);
            default: return refuse(BAD);
        }
    }

    public int power() {
        return now.powerOfAll();
    }

    public int odds(int what) {
        switch (what) {
            case 0: return now.oddsOurs(now.powerOfAll());
            case 1: return now.oddsAgainst();
            default: return refuse(BAD);
        }
    }

    public int way(int l) {
        if (!now.hasPlayers(l)) {
            return refuse(whyNoLine(l));
        }
        return now.wayTo(l);
    }

    public int best(int what) {
        if (!isIn(what, 0, 1)) {
            return refuse(BAD);
        }
        if (now.firstLine() == NONE) {
            return refuse(STUCK);
        }
        return what == 0 ? now.freshestLine() : strongestLine();
    }

    public int rests(int player) {
        if (!now.isPlayer(player)) {
            return refuse(BAD);
        }
        int less = restsBy(now.kinds[player]);
        return (now.tired[player] + less - 1) / less;
    }

    public int five() {
        if (now.players == 0) {
            return refuse(STUCK);
        }
        int wanted = Math.min(MOST_IN_LINE, now.players);
        pick.begin();
        for (int set = 1; set <= now.everybody(); set++) {
            if (Integer.bitCount(set) == wanted) {
                pick.offer(set, powerWith(set));
            }
        }
        return pick.first;
    }

    // ---- in thought

    public int behind(int n, int player) {
        if (!isIn(n, 0, MOST_SECONDS) || !(player == NONE || now.isPlayer(player))) {
            return refuse(BAD);
        }
        thought.takeFrom(now);
        thought.passSeconds(n);
        return player == NONE ? thought.powerOfAll() : thought.tired[player];
    }

    public int gains(int n) {
        if (!isIn(n, 0, MOST_SECONDS)) {
            return refuseGains(BAD);
        }
        thought.takeFrom(now);
        return thought.gainsIn(n);
    }

    public int tiredest(int n) {
        if (!isIn(n, 0, MOST_SECONDS)) {
            return refuse(BAD);
        }
        if (now.players == 0) {
            return refuse(STUCK);
        }
        thought.takeFrom(now);
        thought.passSeconds(n);
        pick.begin();
        for (int p = 0; p < thought.players; p++) {
            pick.offer(p, thought.tired[p]);
        }
        return pick.first;
    }

    public int fresh(int l, int v) {
        if (!isLine(l) || !isIn(v, 0, MOST_SECONDS)) {
            return refuse(BAD);
        }
        if (!now.hasPlayers(l)) {
            return refuse(STUCK);
        }
        thought.takeFrom(now);
        thought.putOn(0);
        int seconds = 0;
        while (seconds < MOST_TIRED && thought.tiredTogether(thought.lines[l]) > v) {
            thought.passSeconds(1);
            seconds++;
        }
        return seconds;
    }

    public int third(int n) {
        if (!isIn(n, 0, MOST_SECONDS)) {
            return refuse(BAD);
        }
        pick.begin();
        for (int t = 0; t < THIRDS; t++) {
            thought.takeFrom(now);
            thought.third = t;
            pick.offer(t, thought.gainsIn(n));
        }
        return pick.first;
    }

    public int theirsFor(int n) {
        if (!isIn(n, 0, MOST_SECONDS)) {
            return refuse(BAD);
        }
        thought.takeFrom(now);
        int forUs = thought.oursIn(n);
        for (int v = MOST_THEIRS; v >= 1; v--) {
            thought.theirs = v;
            if (forUs >= thought.againstIn(n)) {
                return v;
            }
        }
        return 0;
    }

    public int two(int l, int m, int n) {
        if (!isLine(l) || !isLine(m) || !isIn(n, 0, MOST_SECONDS)) {
            return refuseGains(BAD);
        }
        if (!now.hasPlayers(l) || !now.hasPlayers(m)) {
            return refuseGains(STUCK);
        }
        thought.takeFrom(now);
        thought.putOn(thought.lines[l]);
        int first = thought.gainsIn(n);
        thought.beginChange(m);
        return first + thought.gainsIn(n);
    }

    public int shifts(int k, int n) {
        if (!isIn(k, LEAST_SHIFT, MOST_SHIFT) || !isIn(n, 0, MOST_SECONDS)) {
            return refuseGains(BAD);
        }
        if (now.firstLine() == NONE) {
            return refuseGains(STUCK);
        }
        return gainsOfShifts(k, n);
    }

    public int bestShift(int n) {
        if (!isIn(n, 0, MOST_SECONDS)) {
            return refuse(BAD);
        }
        if (now.firstLine() == NONE) {
            return refuse(STUCK);
        }
        pick.begin();
        for (int k = LEAST_SHIFT; k <= MOST_SHIFT; k++) {
            pick.offer(k, gainsOfShifts(k, n));
        }
        return pick.first;
    }

    public int changeNow(int l, int n) {
        if (!isLine(l) || !isIn(n, 0, MOST_SECONDS)) {
            return refuseGains(BAD);
        }
        if (!now.hasPlayers(l)) {
            return refuseGains(STUCK);
        }
        return gainsOfChange(l, n, now.third);
    }

    public int where(int l, int n) {
        if (!isLine(l) || !isIn(n, 0, MOST_SECONDS)) {
            return refuse(BAD);
        }
        if (!now.hasPlayers(l)) {
            return refuse(STUCK);
        }
        pick.begin();
        for (int t = 0; t < THIRDS; t++) {
            pick.offer(t, gainsOfChange(l, n, t));
        }
        return pick.first;
    }

    public int meets(int l, int v) {
        if (!isLine(l) || !isIn(v, 1, MOST_THEIRS)) {
            return refuseGains(BAD);
        }
        if (!now.hasPlayers(l)) {
            return refuseGains(STUCK);
        }
        return gainsOfMeeting(l, v);
    }

    public int match(int s, int n, int what) {
        if (!isShelf(s) || !isIn(n, 1, MOST_ELEMENTS) || !isIn(what, 0, 1)) {
            return refuseGains(BAD);
        }
        Shelf shelf = shelves[s];
        if (!shelf.isRow()) {
            return refuseGains(shelf.whyNoRow());
        }
        if (!shelf.hasPlaces(0, n) || !shelf.areAllIn(n, 1, MOST_THEIRS)) {
            return refuseGains(BAD);
        }
        if (now.firstLine() == NONE) {
            return refuseGains(STUCK);
        }
        // more strength of theirs never brings more, so the least MEETS is that with the strongest
        int strongest = shelf.greatestOf(n);
        pick.begin();
        for (int l = 0; l < LINES; l++) {
            if (now.hasPlayers(l)) {
                pick.offer(l, gainsOfMeeting(l, strongest));
            }
        }
        return what == 0 ? pick.first : pick.most;
    }

    public int pull(int n, int part) {
        if (!isIn(n, 0, MOST_SECONDS) || !isIn(part, 0, 100)) {
            return refuseGains(BAD);
        }
        thought.takeFrom(now);
        thought.keeper = 1;
        int oursOn = thought.oursIn(n);
        int againstOn = thought.againstIn(n);
        thought.takeFrom(now);
        thought.keeper = 0;
        int oursOff = thought.oursIn(n);
        int againstOff = thought.againstIn(n);
        return oursOff - oursOn - part * (againstOff - againstOn) / 100;
    }

    public int minutes(int l) {
        if (l != NONE && !isLine(l)) {
            return refuseGains(BAD);
        }
        if (now.firstLine() == NONE) {
            return refuseGains(STUCK);
        }
        pick.begin();
        for (int share = 0; share < SHARES; share++) {
            if (mayShare(share)) {
                pick.offer(share, gainsOfShare(share));
            }
        }
        return l == NONE ? pick.most : spellsIn(pick.first, l);
    }

    public int penalty(int n) {
        if (n != NONE && !isIn(n, 0, MOST_SECONDS)) {
            return refuseGains(BAD);
        }
        if (now.ice == 0) {
            return refuseGains(STUCK);
        }
        int who = leastMissed();
        if (n == NONE) {
            return who;
        }
        thought.takeFrom(now);
        thought.takeOff(who);
        return thought.gainsIn(n);
    }

    // ---- books

    public int judge(int s, int n) {
        if (!isShelf(s) || !isIn(n, 0, MOST_ELEMENTS)) {
            return refuse(BAD);
        }
        Shelf shelf = shelves[s];
        if (!shelf.isRow()) {
            return refuse(shelf.whyNoRow());
        }
        if (!shelf.hasPlaces(0, n)) {
            return refuse(BAD);
        }
        return firstWrong(shelf, n);
    }

    public int booked(int s, int n, int player, int what) {
        boolean mayBe = isShelf(s) && isIn(n, 0, MOST_ELEMENTS) && now.isPlayer(player) && isIn(what, 0, 1);
        if (!mayBe) {
            return refuse(BAD);
        }
        Shelf shelf = shelves[s];
        if (!shelf.isRow()) {
            return refuse(shelf.whyNoRow());
        }
        if (!shelf.hasPlaces(0, n)) {
            return refuse(BAD);
        }
        if (firstWrong(shelf, n) != NONE) {
            return refuse(STUCK);
        }
        return what == 0 ? longestOn(shelf, n, player) : costOf(shelf, n, player);
    }

    // ---- in truth

    public int whistle(int l) {
        if (!now.hasPlayers(l)) {
            return refuse(whyNoLine(l));
        }
        now.putOn(now.lines[l]);
        return now.powerOfAll();
    }

    public int change(int l) {
        if (!now.hasPlayers(l)) {
            return refuse(whyNoLine(l));
        }
        return now.beginChange(l);
    }

    public int skate(int n) {
        if (!isIn(n, 1, MOST_TRUE_SECONDS)) {
            return refuse(BAD);
        }
        return now.playSeconds(n);
    }

    public int game(int n) {
        if (!isIn(n, 1, MOST_GAME)) {
            return refuseGains(BAD);
        }
        if (now.firstLine() == NONE) {
            return refuseGains(STUCK);
        }
        int lead = now.ours - now.against;
        for (int i = 0; i < n; i++) {
            now.third = now.drawBelow(THIRDS);
            now.beginChange(now.freshestLine());
            now.playSeconds(GAME_SPELL);
        }
        return now.ours - now.against - lead;
    }

    public int pause(int n) {
        if (!isIn(n, 1, MOST_TIRED)) {
            return refuse(BAD);
        }
        int still = 0;
        for (int p = 0; p < now.players; p++) {
            now.tired[p] = Math.max(0, now.tired[p] - n);
            if (now.tired[p] > 0) {
                still++;
            }
        }
        return still;
    }

    public int seed(int v) {
        int was = now.seed;
        now.seed = v;
        return was;
    }

    public int image() {
        kept.takeFrom(now);
        isKept = true;
        return 1;
    }

    public int back() {
        if (!isKept) {
            return refuse(STUCK);
        }
        now.takeFrom(kept);
        for (int s = 0; s < SHELVES; s++) {
            if (shelves[s].isPlayer() && !now.isPlayer(shelves[s].content - PLAYERS_FROM)) {
                shelves[s].content = NONE;
            }
        }
        return 1;
    }

    public int status(int what) {
        if (isIn(what, 12, 16)) {
            return refused[what - 12];
        }
        switch (what) {
            case 0: return now.players;
            case 1: return now.ice;
            case 2: return now.coming;
            case 3: return now.left;
            case 4: return now.third;
            case 5: return now.half;
            case 6: return now.theirs;
            case 7: return now.keeper;
            case 8: return now.second;
            case 9: return now.minus;
            case 10: return now.ours;
            case 11: return now.against;
            case 17: return tape.size;
            case 18: return now.seed;
            case 19: return fullShelves();
            default: return NONE;
        }
    }

    // ---- what the calls share

    private int refuse(int why) {
        int at = BAD - why;
        if (isIn(at, 0, refused.length - 1)) {
            refused[at]++;
        }
        return why;
    }

    private int refuseGains(int why) {
        return NO_GAINS + refuse(why);
    }

    private int whyNoLine(int l) {
        return isLine(l) ? STUCK : BAD;
    }

    private int fullShelves() {
        int full = 0;
        for (int s = 0; s < SHELVES; s++) {
            if (shelves[s].content != NONE) {
                full++;
            }
        }
        return full;
    }

    private int powerWith(int set) {
        thought.takeFrom(now);
        thought.putOn(set);
        return thought.powerOfAll();
    }

    private int strongestLine() {
        pick.begin();
        for (int l = 0; l < LINES; l++) {
            if (now.hasPlayers(l)) {
                pick.offer(l, powerWith(now.lines[l]));
            }
        }
        return pick.first;
    }

    private int gainsOfShifts(int k, int n) {
        thought.takeFrom(now);
        int l = thought.firstLine();
        thought.putOn(thought.lines[l]);
        int gains = 0;
        // k is no less, but so the loop's end is seen from its own line
        for (int gone = 0; gone < n; gone += Math.max(LEAST_SHIFT, k)) {
            if (gone > 0) {
                l = thought.nextLine(l);
                thought.beginChange(l);
            }
            gains += thought.gainsIn(Math.min(k, n - gone));
        }
        return gains;
    }

    private int gainsOfChange(int l, int n, int third) {
        thought.takeFrom(now);
        thought.third = third;
        int without = thought.gainsIn(n);
        thought.takeFrom(now);
        thought.third = third;
        thought.beginChange(l);
        return thought.gainsIn(n) - without;
    }

    private int gainsOfMeeting(int l, int v) {
        thought.takeFrom(now);
        thought.theirs = v;
        thought.putOn(thought.lines[l]);
        return thought.gainsIn(SPELL);
    }

    private boolean mayShare(int share) {
        for (int l = 0; l < LINES; l++) {
            int spells = spellsIn(share, l);
            if (spells < 0 || spells > 0 && !now.hasPlayers(l)) {
                return false;
            }
        }
        return true;
    }

    private int gainsOfShare(int share) {
        thought.takeFrom(now);
        int gains = 0;
        for (int l = 0; l < LINES; l++) {
            int spells = spellsIn(share, l);
            // a whistle between two spells of the same LINE changes nothing: nobody is COMING
            if (spells > 0) {
                thought.putOn(thought.lines[l]);
                gains += thought.gainsIn(spells * SPELL);
            }
        }
        return gains;
    }

    private int leastMissed() {
        pick.begin();
        for (int p = 0; p < now.players; p++) {
            if (bit(now.ice, p) == 1) {
                thought.takeFrom(now);
                thought.takeOff(p);
                pick.offer(p, thought.powerOfAll());
            }
        }
        return pick.first;
    }

    private int firstWrong(Shelf book, int n) {
        for (int i = 0; i < n; i++) {
            long l = book.elements[i];
            if (l < 0 || l >= LINES || !now.hasPlayers((int) l)) {
                return i;
            }
        }
        return NONE;
    }

    private boolean isOnBy(Shelf book, int i, int player) {
        return bit(now.lines[(int) book.elements[i]], player) == 1;
    }

    private int longestOn(Shelf book, int n, int player) {
        int longest = 0;
        int since = 0;
        for (int i = 0; i < n; i++) {
            since = isOnBy(book, i, player) ? since + BOOK_SPELL : 0;
            longest = Math.max(longest, since);
        }
        return longest;
    }

    private int costOf(Shelf book, int n, int player) {
        thought.takeFrom(now);
        thought.tired[player] = 0;
        for (int i = 0; i < n; i++) {
            thought.putOn(thought.lines[(int) book.elements[i]]);
            thought.passSeconds(BOOK_SPELL);
        }
        return thought.skills[player] - thought.legsOf(player);
    }

    private static int spellsIn(int share, int l) {
        switch (l) {
            case 0: return share / 81;
            case 1: return share / 9 % 9;
            case 2: return share % 9;
            default: return SPELLS - share / 81 - share / 9 % 9 - share % 9;
        }
    }

    private static boolean isIn(int v, int least, int most) {
        return least <= v && v <= most;
    }

    private static boolean isShelf(int s) {
        return isIn(s, 0, SHELVES - 1);
    }

    private static boolean isLine(int l) {
        return isIn(l, 0, LINES - 1);
    }

    private static int bit(int set, int at) {
        return set >> at & 1;
    }

    private static boolean isUnder(int kind, int above) {
        return above == PLAYER || kind == above || kind == STAR && above == LATE || kind == CALLER && above == DEEP;
    }

    private static int tiresBy(int kind) {
        return kind == LATE || kind == STAR ? 3 : 2;
    }

    private static int restsBy(int kind) {
        return kind == STAR ? 2 : 1;
    }

    /** All that an image keeps; one is the truth, others are copies that calls think upon. */
    private static final class Rink {
        private final int[] kinds = new int[MOST_PLAYERS];
        private final int[] skills = new int[MOST_PLAYERS];
        private final int[] extras = new int[MOST_PLAYERS];
        private final int[] tired = new int[MOST_PLAYERS];
        private final int[] lines = new int[LINES];
        private int players = 0;
        private int ice = 0;
        private int coming = 0;
        private int left = 0;
        private int third = MIDDLE;
        private int half = 0;
        private int theirs = 150;
        private int keeper = 1;
        private int second = 0;
        private int minus = 0;
        private int ours = 0;
        private int against = 0;
        private int seed = 1;

        private void takeFrom(Rink other) {
            System.arraycopy(other.kinds, 0, kinds, 0, MOST_PLAYERS);
            System.arraycopy(other.skills, 0, skills, 0, MOST_PLAYERS);
            System.arraycopy(other.extras, 0, extras, 0, MOST_PLAYERS);
            System.arraycopy(other.tired, 0, tired, 0, MOST_PLAYERS);
            System.arraycopy(other.lines, 0, lines, 0, LINES);
            players = other.players;
            ice = other.ice;
            coming = other.coming;
            left = other.left;
            third = other.third;
            half = other.half;
            theirs = other.theirs;
            keeper = other.keeper;
            second = other.second;
            minus = other.minus;
            ours = other.ours;
            against = other.against;
            seed = other.seed;
        }

        private boolean isPlayer(int p) {
            return isIn(p, 0, players - 1);
        }

        private boolean hasRoom() {
            return players < MOST_PLAYERS;
        }

        private int everybody() {
            return (1 << players) - 1;
        }

        private int addPlayer(int kind, int skill, int extra) {
            if (!hasRoom()) {
                return NONE;
            }
            int p = players++;
            kinds[p] = kind;
            skills[p] = skill;
            extras[p] = extra;
            tired[p] = 0;
            return p;
        }

        private boolean hasPlayers(int l) {
            return isLine(l) && lines[l] != 0;
        }

        private int firstLine() {
            for (int l = 0; l < LINES; l++) {
                if (lines[l] != 0) {
                    return l;
                }
            }
            return NONE;
        }

        private int nextLine(int l) {
            for (int step = 1; step <= LINES; step++) {
                int next = (l + step) % LINES;
                if (hasPlayers(next)) {
                    return next;
                }
            }
            return l;
        }

        private int freshestLine() {
            int best = NONE;
            int least = 0;
            for (int l = 0; l < LINES; l++) {
                int together = tiredTogether(lines[l]);
                if (lines[l] != 0 && (best == NONE || together < least)) {
                    best = l;
                    least = together;
                }
            }
            return best;
        }

        private int tiredTogether(int set) {
            int sum = 0;
            for (int p = 0; p < players; p++) {
                sum += bit(set, p) * tired[p];
            }
            return sum;
        }

        private int skillTogether(int set) {
            int sum = 0;
            for (int p = 0; p < players; p++) {
                sum += bit(set, p) * skills[p];
            }
            return sum;
        }

        private int legsOf(int p) {
            return skills[p] * (MOST_TIRED - tired[p]) / 100;
        }

        private int othersOnIce(int p) {
            return Integer.bitCount(ice) - bit(ice, p);
        }

        private int powerOf(int p) {
            int legs = legsOf(p);
            if (kinds[p] == EARLY && tired[p] < 10) {
                return legs + extras[p];
            }
            return kinds[p] == CALLER ? legs + 2 * othersOnIce(p) : legs;
        }

        private int saidAs(int kind, int p) {
            switch (kind) {
                case LATE:
                case STAR: return tiresBy(kinds[p]);
                case EARLY: return powerOf(p);
                case DEEP: return bit(ice, p);
                case CALLER: return othersOnIce(p);
                default: return legsOf(p);
            }
        }

        private int powerOfAll() {
            int there = 0;
            int onTheWay = 0;
            for (int p = 0; p < players; p++) {
                if (bit(coming, p) == 1) {
                    onTheWay += powerOf(p);
                } else if (bit(ice, p) == 1) {
                    there += powerOf(p);
                }
            }
            return there + onTheWay / 2 + (keeper == 0 ? 30 : 0);
        }

        private int oddsOurs(int power) {
            return 2 * power * (third + 1) / 3;
        }

        private int oddsAgainst() {
            int odds = 2 * theirs * (3 - third) / 3;
            return keeper == 0 ? 5 * odds : odds;
        }

        private int wayTo(int l) {
            int set = lines[l];
            if ((set & ~ice) == 0) {
                return 0;
            }
            int way = 3 + 2 * half - (third == 2 ? 2 : 0);
            for (int p = 0; p < players; p++) {
                if (bit(ice & ~set, p) == 1 && isUnder(kinds[p], DEEP)) {
                    way--;
                }
            }
            return Math.max(1, way);
        }

        private int beginChange(int l) {
            int way = wayTo(l);
            coming = lines[l] & ~ice;
            left = way;
            ice = lines[l];
            return way;
        }

        private void putOn(int set) {
            ice = set;
            coming = 0;
            left = 0;
        }

        private void takeOff(int p) {
            ice &= ~(1 << p);
            coming &= ~(1 << p);
            if (coming == 0) {
                left = 0;
            }
        }

        /** TIRED has its bound at the end of the way only, so n SECONDS at once are as good as one by one. */
        private void tireIce(int n) {
            for (int p = 0; p < players; p++) {
                if (bit(ice, p) == 1) {
                    tired[p] = Math.min(MOST_TIRED, tired[p] + n * tiresBy(kinds[p]));
                }
            }
        }

        private void restBench(int n) {
            for (int p = 0; p < players; p++) {
                if (bit(ice, p) == 0) {
                    tired[p] = Math.max(0, tired[p] - n * restsBy(kinds[p]));
                }
            }
        }

        private void comeNearer(int n) {
            left = Math.max(0, left - n);
            if (left == 0) {
                coming = 0;
            }
        }

        private void passSeconds(int n) {
            tireIce(n);
            restBench(n);
            comeNearer(n);
        }

        /** POWER is of those on the ICE alone, so the bench may rest for all n SECONDS at once. */
        private int oursIn(int n) {
            int sum = 0;
            for (int s = 0; s < n; s++) {
                tireIce(1);
                sum += oddsOurs(powerOfAll());
                comeNearer(1);
            }
            restBench(n);
            return sum;
        }

        /** In thought neither the puck nor THEIRS nor the KEEPER moves: each SECOND is alike. */
        private int againstIn(int n) {
            return n * oddsAgainst();
        }

        private int gainsIn(int n) {
            return oursIn(n) - againstIn(n);
        }

        private int playSeconds(int n) {
            int goalsAhead = ours + against;
            for (int s = 0; s < n; s++) {
                tireIce(1);
                restBench(1);
                int forUs = oddsOurs(powerOfAll());
                int forBoth = forUs + oddsAgainst();
                second++;
                // ahead of comeNearer, so that a WAY of one SECOND costs one SECOND, too
                if (coming != 0) {
                    minus++;
                }
                comeNearer(1);
                score(drawBelow(ODDS_OF), forUs, forBoth);
            }
            return ours + against - goalsAhead;
        }

        private void score(int drawn, int forUs, int forBoth) {
            if (drawn >= forBoth) {
                return;
            }
            if (drawn < forUs) {
                ours++;
            } else {
                against++;
            }
            third = MIDDLE;
        }

        private int drawBelow(int n) {
            seed = seed * 1103515245 + 12345;
            return n < 1 ? 0 : (seed >>> 16) % n;
        }
    }

    /** The greatest of what is offered one by one, of several the first. */
    private static final class Pick {
        private int first = NONE;
        private int most = 0;

        private void begin() {
            first = NONE;
            most = 0;
        }

        private void offer(int which, int worth) {
            if (first == NONE || worth > most) {
                first = which;
                most = worth;
            }
        }
    }

    /** A SHELF; its content is told by holds(): NONE, a SORT, or 10 and a PLAYER's number. */
    private static final class Shelf {
        private final long[] elements = new long[MOST_ELEMENTS];
        private int content = NONE;
        private int size = 0;

        private boolean isRow() {
            return isIn(content, 0, SORTS - 1);
        }

        private boolean isPlayer() {
            return content >= PLAYERS_FROM;
        }

        private int whyNoRow() {
            return isPlayer() ? OTHER : NOTHING;
        }

        private void becomeRow(int sort, int n) {
            content = sort;
            size = n;
            Arrays.fill(elements, 0L);
        }

        private boolean hasPlaces(int from, int n) {
            return isIn(n, 0, size) && isIn(from, 0, size - n);
        }

        private void put(int i, long v) {
            switch (content) {
                case 0: elements[i] = (byte) v; break;
                case 1: elements[i] = (short) v; break;
                case 2: elements[i] = (int) v; break;
                case 4: elements[i] = v != 0 ? 1 : 0; break;
                default: elements[i] = v; break;
            }
        }

        private boolean areAllIn(int n, long least, long most) {
            for (int i = 0; i < n; i++) {
                if (elements[i] < least || elements[i] > most) {
                    return false;
                }
            }
            return true;
        }

        /** Of elements that areAllIn the range of an int. */
        private int greatestOf(int n) {
            long greatest = 0;
            for (int i = 0; i < n; i++) {
                greatest = Math.max(greatest, elements[i]);
            }
            return (int) greatest;
        }
    }

    /** THE TAPE and its reader, who stands on one TOKEN; its start is the FAULT if it can't stand there. */
    private static final class Tape {
        private static final int END = 0;
        private static final int WORD = 1;
        private static final int NUMBER = 2;
        private static final int SIGN = 3;
        private static final int NO_TOKEN = 4;
        private static final int MOST_DIGITS = 3;

        private static final int ON = 0;
        private static final int THIRD = 1;
        private static final int HALF = 2;
        private static final int THEIRS = 3;
        private static final int SKATE = 4;
        /** The numbers that may stand behind these words, by word. */
        private static final int[] LEASTS = {0, 0, 0, 1, 1};
        private static final int[] MOSTS = {3, 2, 1, 999, 99};

        private final int[] bytes = new int[MOST_BYTES];
        private int size = 0;
        private int start = 0;
        private int end = 0;
        private int token = END;

        private int append(int letter) {
            if (size < MOST_BYTES) {
                bytes[size++] = letter;
            }
            return size;
        }

        /** How many STATEMENTS; NONE at a FAULT, and then the rink may have had some of them. */
        private int readOnto(Rink rink) {
            end = 0;
            for (int statements = 1; statements <= MOST_BYTES; statements++) {
                step();
                boolean isGood;
                if (isWord("player")) {
                    isGood = readPlayer(rink);
                } else if (isWord("line")) {
                    isGood = readLine(rink);
                } else {
                    isGood = readOneNumber(rink);
                }
                if (!isGood || token != END && token != SIGN) {
                    return NONE;
                }
                if (token == END) {
                    return statements;
                }
            }
            return NONE;
        }

        private static int sortOf(int letter) {
            if (letter >= 'a' && letter <= 'z') {
                return WORD;
            }
            if (letter >= '0' && letter <= '9') {
                return NUMBER;
            }
            return letter == ';' ? SIGN : NO_TOKEN;
        }

        private void step() {
            start = end;
            while (start < size && bytes[start] == ' ') {
                start++;
            }
            end = start;
            if (start >= size) {
                token = END;
                return;
            }
            token = sortOf(bytes[start]);
            end++;
            boolean mayBeLong = token == WORD || token == NUMBER;
            while (mayBeLong && end < size && sortOf(bytes[end]) == token) {
                end++;
            }
        }

        private boolean isWord(String word) {
            if (token != WORD || end - start != word.length()) {
                return false;
            }
            for (int i = 0; i < word.length(); i++) {
                if (bytes[start + i] != word.charAt(i)) {
                    return false;
                }
            }
            return true;
        }

        private int numberIn(int least, int most) {
            if (token != NUMBER || end - start > MOST_DIGITS) {
                return NONE;
            }
            int v = 0;
            for (int i = start; i < end; i++) {
                v = 10 * v + bytes[i] - '0';
            }
            return isIn(v, least, most) ? v : NONE;
        }

        private int nextNumberIn(int least, int most) {
            step();
            return numberIn(least, most);
        }

        /** Each reader of a STATEMENT begins on its WORD; behind a good one it stands on the TOKEN that follows. */
        private boolean readPlayer(Rink rink) {
            if (!rink.hasRoom()) {
                return false;
            }
            int kind = nextNumberIn(PLAYER, CALLER);
            if (kind == NONE) {
                return false;
            }
            int skill = nextNumberIn(1, MOST_SKILL);
            if (skill == NONE) {
                return false;
            }
            int extra = nextNumberIn(0, MOST_EXTRA);
            if (extra == NONE) {
                return false;
            }
            rink.addPlayer(kind, skill, extra);
            step();
            return true;
        }

        /** A sixth PLAYER is left standing, where only the SIGN or the end may stand. */
        private boolean readLine(Rink rink) {
            int l = nextNumberIn(0, LINES - 1);
            if (l == NONE) {
                return false;
            }
            step();
            int set = 0;
            for (int n = 0; n < MOST_IN_LINE && token == NUMBER; n++) {
                int p = numberIn(0, rink.players - 1);
                if (p == NONE || bit(set, p) == 1) {
                    return false;
                }
                set |= 1 << p;
                step();
            }
            if (set == 0) {
                return false;
            }
            rink.lines[l] = set;
            return true;
        }

        private int wordOfOneNumber() {
            if (isWord("on")) {
                return ON;
            }
            if (isWord("third")) {
                return THIRD;
            }
            if (isWord("half")) {
                return HALF;
            }
            if (isWord("theirs")) {
                return THEIRS;
            }
            return isWord("skate") ? SKATE : NONE;
        }

        private boolean readOneNumber(Rink rink) {
            int word = wordOfOneNumber();
            if (word == NONE) {
                return false;
            }
            int v = nextNumberIn(LEASTS[word], MOSTS[word]);
            if (v == NONE || word == ON && !rink.hasPlayers(v)) {
                return false;
            }
            switch (word) {
                case ON: rink.putOn(rink.lines[v]); break;
                case THIRD: rink.third = v; break;
                case HALF: rink.half = v; break;
                case THEIRS: rink.theirs = v; break;
                default: rink.playSeconds(v); break;
            }
            step();
            return true;
        }
    }
}
