import java.util.Arrays;

/** A hall of sites that commit in three phases, with groups, quorums, rescues, mixes and a script. */
public final class PreCommitHall {
    /** There is none. */
    public static final int NONE = -1;

    private static final int NO_SUCH = -2;
    private static final int BAD_NUMBER = -3;
    private static final int NOT_YET = -4;
    private static final int NOT_NOW = -5;
    private static final int MISSING = -6;
    private static final int FAULTY_TEXT = -30;

    private static final int NEW = 0;
    private static final int READY = 1;
    private static final int PRE = 2;
    private static final int HELD = 3;
    private static final int DONE = 4;
    private static final int GONE = 5;
    private static final int STATES = 6;

    // Sets of states, a bit each.
    private static final int ONLY_NEW = 1;
    private static final int ONLY_READY = 2;
    private static final int NEW_OR_READY = 3;
    private static final int ONLY_PRE = 4;
    private static final int PRE_OR_READY = 6;
    private static final int NEW_READY_OR_HELD = 11;
    private static final int UNDECIDED = 15;
    private static final int ONLY_DONE = 16;
    private static final int ALL_BUT_GONE = 31;
    private static final int ONLY_GONE = 32;
    private static final int DECIDED = 48;
    private static final int ANY_STATE = 63;

    private static final int DOWN = 0;
    private static final int UP = 1;
    private static final int AWAKE = 2;

    private static final int PLAIN = 0;
    private static final int BY_QUORUMS = 1;

    // What a finisher sets out to.
    private static final int TO_GONE = 0;
    private static final int TO_DONE = 1;
    private static final int TO_DONE_BY_PRE = 2;
    private static final int TO_GONE_BY_HELD = 3;
    private static final int ALL_DECIDED = 4;

    private static final int OVER = 3;

    private static final int MOST_SITES = 5;
    private static final int MOST_LIMIT = 20;
    private static final int MOST_WEIGHT = 3;
    private static final int MOST_QUORUM = 15;
    private static final int MOST_GROUP = 4;
    private static final int MOST_LINES = 60;
    private static final int MOST_BYTES = 200;
    private static final int MOST_UNDONE = 10;
    private static final int MOST_DEEDS = 12;
    private static final int IMAGES = 2;
    private static final int MOST_SEED = 9999;
    private static final int MOST_YEARS = 40;

    private static final int DEED_ASK = 0;
    private static final int DEED_PREPARE = 1;
    private static final int DEED_COMMIT = 2;
    private static final int DEED_CRASH = 3;
    private static final int DEED_WAKE = 4;
    private static final int DEED_FINISH = 5;
    private static final int DEED_RECOVER = 6;
    private static final int DEED_HEAL = 7;
    private static final int DEED_VOTE = 8;
    private static final int DEED_RESCUE = 9;
    private static final int DEED_KINDS = 10;

    private static final int FAULT_WORD = 1;
    private static final int FAULT_OTHER = 2;
    private static final int FAULT_MANY = 3;

    private static final int MIX_SITES = 3;
    private static final int MIX_LIMIT = 4;
    // A mix as a number: three states by sixes and eight sets of who is up.
    private static final int MIX_NUMBERS = 1728;
    // A mix with four ways to be parted and four phases.
    private static final int STAND_NUMBERS = 27648;
    // By all votes, weights and quorums no search has more than 1756.
    private static final int MOST_STANDS = 4096;
    private static final int MOST_WAY = 64;

    private final Hall now;
    private final Hall paper;
    private final Past past;
    private final Hall[] images;
    private final boolean[] imaged;
    private final byte[] tape;
    private int fed;
    private final Script text;
    private final Draws draws;
    private final Search search;

    public PreCommitHall() {
        now = new Hall();
        now.open(3, PLAIN);
        paper = new Hall();
        past = new Past();
        images = new Hall[IMAGES];
        for (int i = 0; i < IMAGES; i++) {
            images[i] = new Hall();
        }
        imaged = new boolean[IMAGES];
        tape = new byte[MOST_BYTES];
        text = new Script();
        draws = new Draws();
        search = new Search();
    }

    // ---- sites

    public int begin(int n, int form) {
        if (n < 2 || n > MOST_SITES || form < PLAIN || form > BY_QUORUMS) {
            return BAD_NUMBER;
        }
        past.remember(now);
        now.open(n, form);
        return past.settled(n);
    }

    public int vote(int s, int yes) {
        past.remember(now);
        return past.settled(now.tellVote(s, yes));
    }

    public int weight(int s, int w) {
        past.remember(now);
        return past.settled(now.tellWeight(s, w));
    }

    public int quorum(int yes, int no) {
        past.remember(now);
        return past.settled(now.tellQuorums(yes, no));
    }

    public int ask(int k) {
        past.remember(now);
        return past.settled(now.askAll(k));
    }

    public int prepare(int k) {
        past.remember(now);
        return past.settled(now.prepareAll(k));
    }

    public int commit(int k) {
        past.remember(now);
        return past.settled(now.commitAll(k));
    }

    public int crash(int s) {
        past.remember(now);
        return past.settled(now.crashSite(s));
    }

    public int wake(int s) {
        past.remember(now);
        return past.settled(now.wakeSite(s));
    }

    public int part(int digits) {
        past.remember(now);
        return past.settled(now.partAll(digits));
    }

    public int finish(int s, int k) {
        past.remember(now);
        return past.settled(now.finishBy(s, k));
    }

    public int recover(int s) {
        past.remember(now);
        return past.settled(now.recoverSite(s));
    }

    public int rescue(int k) {
        past.remember(now);
        return past.settled(now.rescueAll(k));
    }

    public int site(int s, int what) {
        if (!now.isSite(s)) {
            return NO_SUCH;
        }
        switch (what) {
            case 0: return now.state[s];
            case 1: return now.up[s];
            case 2: return now.group[s];
            case 3: return now.votes[s];
            case 4: return now.weights[s];
            case 5: return now.knows[s];
            default: return NO_SUCH;
        }
    }

    // ---- on paper

    public int would(int s) {
        if (!now.isSite(s)) {
            return NO_SUCH;
        }
        if (now.up[s] != UP) {
            return NOT_NOW;
        }
        return now.told(now.upIn(now.group[s]));
    }

    public int messages(int s) {
        int told = would(s);
        if (told < 0) {
            return told;
        }
        int others = Integer.bitCount(now.upIn(now.group[s])) - 1;
        return told == TO_DONE_BY_PRE || told == TO_GONE_BY_HELD ? 2 * others : others;
    }

    public int blocked() {
        return now.blockedOf(now.upBits());
    }

    public int could(int set) {
        return now.isSet(set) ? now.told(set) : NO_SUCH;
    }

    public int split() {
        int pairs = 0;
        int all = now.all();
        for (int a = 1; a <= all; a++) {
            if (!now.endsDone(a)) {
                continue;
            }
            for (int b = 1; b <= all; b++) {
                if ((a & b) == 0 && now.endsGone(b)) {
                    pairs++;
                }
            }
        }
        return pairs;
    }

    public int stands(int f) {
        if (f < 0 || f >= now.n) {
            return BAD_NUMBER;
        }
        int up = now.upBits();
        int found = 0;
        for (int lost = 0; lost <= up; lost++) {
            boolean fits = (lost & ~up) == 0 && Integer.bitCount(lost) == f;
            if (fits && now.blockedOf(up & ~lost) == 0) {
                found++;
            }
        }
        return found;
    }

    public int sets(int what) {
        if (what < 0 || what > 3) {
            return NO_SUCH;
        }
        int due = what % 2 == 0 ? now.yes : now.no;
        int found = 0;
        for (int set = 1; set <= now.all(); set++) {
            if (now.weightOf(set) >= due && (what < 2 || now.needsEach(set, due))) {
                found++;
            }
        }
        return found;
    }

    public int ends(int s, int k, int what) {
        if (what < 0 || what > 2) {
            return NO_SUCH;
        }
        paper.take(now);
        int told = paper.finishBy(s, k);
        if (told < 0) {
            return told;
        }
        if (what == 0) {
            return paper.sitesThatAre(DECIDED);
        }
        if (what == 1) {
            return paper.upBits();
        }
        return paper.told(paper.upIn(paper.group[s]));
    }

    public int years(int seed, int n, int what) {
        if (seed < 0 || seed > MOST_SEED || n < 1 || n > MOST_YEARS) {
            return BAD_NUMBER;
        }
        if (what < 0 || what > 2) {
            return NO_SUCH;
        }
        paper.take(now);
        draws.x = seed;
        int could = 0;
        for (int i = 0; i < n; i++) {
            if (drawnAct() >= 0) {
                could++;
            }
        }
        if (what == 0) {
            return paper.digits();
        }
        return what == 1 ? paper.upBits() : could;
    }

    public int last(int set) {
        return now.isSet(set) ? now.lastOf(set) : NO_SUCH;
    }

    public int fewest() {
        int best = NONE;
        int size = MOST_SITES + 1;
        for (int set = 1; set <= now.all(); set++) {
            if (Integer.bitCount(set) < size && now.hasLast(set)) {
                best = set;
                size = Integer.bitCount(set);
            }
        }
        return best;
    }

    public int those(int what) {
        switch (what) {
            case 0: return now.sitesThatAre(ONLY_DONE);
            case 1: return now.sitesThatAre(ONLY_GONE);
            case 2: return now.upBits();
            case 3: return now.sitesThatAre(DECIDED) & now.upBits();
            default: return NO_SUCH;
        }
    }

    // ---- all mixes

    public int mixes(int groups, int what) {
        if (groups < 0 || groups > 1) {
            return BAD_NUMBER;
        }
        if (what < 0 || what > 3) {
            return NO_SUCH;
        }
        if (now.n > MIX_SITES) {
            return NOT_NOW;
        }
        Mixes found = mixesBy(groups);
        switch (what) {
            case 0: return found.size;
            case 1: return found.unlike;
            case 2: return found.wayLength;
            default: return found.most;
        }
    }

    public int steps(int digits, int up, int groups) {
        int states = now.statesNumber(digits);
        if (states == NONE || up < 0 || up > now.all() || groups < 0 || groups > 1) {
            return BAD_NUMBER;
        }
        if (now.n > MIX_SITES) {
            return NOT_NOW;
        }
        return mixesBy(groups).stepsTo(states * 8 + up);
    }

    public int beside(int state, int groups) {
        if (state < NEW || state > GONE) {
            return NO_SUCH;
        }
        if (groups < 0 || groups > 1) {
            return BAD_NUMBER;
        }
        if (now.n > MIX_SITES) {
            return NOT_NOW;
        }
        return mixesBy(groups).beside[state];
    }

    public int way(int groups, int i) {
        if (groups < 0 || groups > 1 || i < 0) {
            return BAD_NUMBER;
        }
        if (now.n > MIX_SITES) {
            return NOT_NOW;
        }
        Mixes found = mixesBy(groups);
        return i < found.wayLength && i < MOST_WAY ? found.way[i] : NONE;
    }

    // ---- texts

    public int feed(int a, int b, int c, int d, int e) {
        if (fed + 20 > MOST_BYTES) {
            return BAD_NUMBER;
        }
        feedWord(a);
        feedWord(b);
        feedWord(c);
        feedWord(d);
        feedWord(e);
        return fed;
    }

    public int script(int n) {
        if (n < 0 || n > fed) {
            return BAD_NUMBER;
        }
        text.read(tape, n);
        fed = 0;
        if (text.fault != 0) {
            return FAULTY_TEXT - text.fault;
        }
        past.remember(now);
        int done = doneDeeds();
        if (done > 0) {
            past.settled(done);
        }
        return done;
    }

    public int fault(int what) {
        switch (what) {
            case 0: return text.fault;
            case 1: return text.place;
            case 2: return text.told;
            default: return NONE;
        }
    }

    public int lines() {
        return now.log.size;
    }

    public int sign(int line, int i) {
        if (line < 0 || line >= now.log.size) {
            return NO_SUCH;
        }
        if (i < NONE) {
            return BAD_NUMBER;
        }
        return i == NONE ? now.log.lengthOf(line) : now.log.byteOf(line, i);
    }

    // ---- back

    public int undo(int n) {
        if (n < 1 || n > past.size) {
            return BAD_NUMBER;
        }
        past.back(now, n);
        return past.size;
    }

    public int image(int i) {
        if (i < 0 || i >= IMAGES) {
            return NO_SUCH;
        }
        images[i].take(now);
        imaged[i] = true;
        return 0;
    }

    public int restore(int i) {
        if (i < 0 || i >= IMAGES) {
            return NO_SUCH;
        }
        if (!imaged[i]) {
            return MISSING;
        }
        now.take(images[i]);
        past.size = 0;
        return 0;
    }

    public int count(int what) {
        switch (what) {
            case 0: return now.n;
            case 1: return now.form;
            case 2: return now.phase;
            case 3: return now.yes;
            case 4: return now.no;
            case 5: return now.weightOf(now.all());
            case 6: return past.size;
            case 7: return fed;
            default: return NONE;
        }
    }

    private void feedWord(int word) {
        for (int shift = 24; shift >= 0; shift -= 8) {
            tape[fed] = (byte) (word >> shift);
            fed++;
        }
    }

    private int doneDeeds() {
        int done = 0;
        for (int i = 0; i < text.deeds; i++) {
            int told = doneDeed(text.kinds[i], text.sites[i], text.extras[i]);
            if (told < 0) {
                text.told = told;
                break;
            }
            done++;
        }
        return done;
    }

    private int doneDeed(int kind, int s, int extra) {
        switch (kind) {
            case DEED_ASK: return now.askAll(extra);
            case DEED_PREPARE: return now.prepareAll(extra);
            case DEED_COMMIT: return now.commitAll(extra);
            case DEED_CRASH: return now.crashSite(s);
            case DEED_WAKE: return now.wakeSite(s);
            case DEED_FINISH: return now.finishBy(s, extra);
            case DEED_RECOVER: return now.recoverSite(s);
            case DEED_HEAL: return now.partAll(0);
            case DEED_VOTE: return now.tellVote(s, extra);
            default: return now.rescueAll(NONE);
        }
    }

    private int drawnAct() {
        int kind = draws.next(8);
        if (kind < 3) {
            int k = draws.nextLimit();
            if (kind == 0) {
                return paper.askAll(k);
            }
            return kind == 1 ? paper.prepareAll(k) : paper.commitAll(k);
        }
        int s = draws.next(paper.n);
        switch (kind) {
            case 3: return paper.crashSite(s);
            case 4: return paper.wakeSite(s);
            case 5: return paper.recoverSite(s);
            default: return paper.finishBy(s, draws.nextLimit());
        }
    }

    private Mixes mixesBy(int groups) {
        Mixes found = groups == 1 ? search.parted : search.together;
        int key = now.mixKey();
        // The same votes, weights and quorums always lead to the same mixes.
        if (found.key != key) {
            search.start(now, found);
            for (int i = 0; i < MOST_STANDS && search.goesOn(); i++) {
                search.leadActs();
                search.downActs();
                search.finishActs();
                if (groups == 1) {
                    search.groupActs();
                }
            }
            found.key = key;
        }
        return found;
    }

    /** All that is told of the sites: what is undone, kept in an image, tried on paper. */
    private static final class Hall {
        int n;
        int form;
        int phase;
        int yes;
        int no;
        final int[] state;
        final int[] up;
        final int[] group;
        final int[] votes;
        final int[] weights;
        final int[] knows;
        final Log log;
        int limit;
        int sent;

        Hall() {
            n = 2;
            state = new int[MOST_SITES];
            up = new int[MOST_SITES];
            group = new int[MOST_SITES];
            votes = new int[MOST_SITES];
            weights = new int[MOST_SITES];
            knows = new int[MOST_SITES];
            log = new Log();
        }

        void open(int sites, int by) {
            n = sites;
            form = by;
            phase = 0;
            log.clear();
            Arrays.fill(state, NEW);
            Arrays.fill(up, UP);
            Arrays.fill(group, 0);
            Arrays.fill(votes, 1);
            Arrays.fill(weights, 1);
            Arrays.fill(knows, all());
            halveQuorums();
        }

        void take(Hall other) {
            takeTerms(other);
            phase = other.phase;
            System.arraycopy(other.state, 0, state, 0, MOST_SITES);
            System.arraycopy(other.up, 0, up, 0, MOST_SITES);
            System.arraycopy(other.group, 0, group, 0, MOST_SITES);
            System.arraycopy(other.knows, 0, knows, 0, MOST_SITES);
            log.take(other.log);
        }

        void takeTerms(Hall other) {
            n = other.n;
            form = other.form;
            yes = other.yes;
            no = other.no;
            System.arraycopy(other.votes, 0, votes, 0, MOST_SITES);
            System.arraycopy(other.weights, 0, weights, 0, MOST_SITES);
        }

        int all() {
            return (1 << n) - 1;
        }

        boolean isSite(int s) {
            return s >= 0 && s < n;
        }

        boolean isSet(int set) {
            return set >= 1 && set <= all();
        }

        boolean isLimit(int k) {
            return k >= NONE && k <= MOST_LIMIT;
        }

        int lowest(int set) {
            for (int s = 0; s < n; s++) {
                if ((set >> s & 1) == 1) {
                    return s;
                }
            }
            return NONE;
        }

        int upBits() {
            return sitesStanding(UP);
        }

        int sitesStanding(int how) {
            int bits = 0;
            for (int s = 0; s < n; s++) {
                if (up[s] == how) {
                    bits |= 1 << s;
                }
            }
            return bits;
        }

        int sitesIn(int where) {
            int bits = 0;
            for (int s = 0; s < n; s++) {
                if (group[s] == where) {
                    bits |= 1 << s;
                }
            }
            return bits;
        }

        int upIn(int where) {
            return upBits() & sitesIn(where);
        }

        int sitesThatAre(int states) {
            int bits = 0;
            for (int s = 0; s < n; s++) {
                if ((states >> state[s] & 1) == 1) {
                    bits |= 1 << s;
                }
            }
            return bits;
        }

        int statesIn(int set) {
            int states = 0;
            for (int s = 0; s < n; s++) {
                if ((set >> s & 1) == 1) {
                    states |= 1 << state[s];
                }
            }
            return states;
        }

        int weightOf(int set) {
            int sum = 0;
            for (int s = 0; s < n; s++) {
                if ((set >> s & 1) == 1) {
                    sum += weights[s];
                }
            }
            return sum;
        }

        boolean needsEach(int set, int due) {
            for (int s = 0; s < n; s++) {
                if ((set >> s & 1) == 1 && weightOf(set & ~(1 << s)) >= due) {
                    return false;
                }
            }
            return true;
        }

        void halveQuorums() {
            int most = weightOf(all()) / 2 + 1;
            yes = most;
            no = most;
        }

        int digits() {
            int sum = 0;
            for (int s = 0; s < n; s++) {
                sum = sum * 10 + state[s];
            }
            return sum;
        }

        /** The digits as a number by sixes, or NONE if they can't be states of all sites. */
        int statesNumber(int digits) {
            if (digits < 0) {
                return NONE;
            }
            int rest = digits;
            int number = 0;
            int place = 1;
            for (int s = 0; s < n; s++) {
                if (rest % 10 >= STATES) {
                    return NONE;
                }
                number += rest % 10 * place;
                place *= STATES;
                rest /= 10;
            }
            return rest == 0 ? number : NONE;
        }

        int lastOf(int set) {
            int bits = all();
            for (int s = 0; s < n; s++) {
                if ((set >> s & 1) == 1) {
                    bits &= knows[s];
                }
            }
            return bits;
        }

        boolean hasLast(int set) {
            int bits = lastOf(set);
            return bits != 0 && (bits & ~set) == 0;
        }

        boolean allDecided(int set) {
            return (statesIn(set) & UNDECIDED) == 0;
        }

        /** What a finisher of all of them sets out to, as the judges' states tell. */
        int verdict(int judges, int all) {
            int seen = statesIn(judges);
            if ((seen & ONLY_DONE) != 0) {
                return TO_DONE;
            }
            if ((seen & ONLY_GONE) != 0) {
                return TO_GONE;
            }
            boolean toPre = (seen & ONLY_PRE) != 0;
            if (form == PLAIN && !toPre) {
                return TO_GONE;
            }
            if (form == PLAIN || toPre && weightOf(judges & sitesThatAre(PRE_OR_READY)) >= yes) {
                return (statesIn(all) & turnedToPre()) != 0 ? TO_DONE_BY_PRE : TO_DONE;
            }
            if (weightOf(judges & sitesThatAre(NEW_READY_OR_HELD)) >= no) {
                return (statesIn(all) & NEW_OR_READY) != 0 ? TO_GONE_BY_HELD : TO_GONE;
            }
            return NONE;
        }

        int turnedToPre() {
            return form == PLAIN ? NEW_OR_READY : ONLY_READY;
        }

        int told(int set) {
            return allDecided(set) ? NONE : verdict(set, set);
        }

        boolean endsDone(int set) {
            int verdict = verdict(set, set);
            return verdict == TO_DONE || verdict == TO_DONE_BY_PRE;
        }

        boolean endsGone(int set) {
            int verdict = verdict(set, set);
            return verdict == TO_GONE || verdict == TO_GONE_BY_HELD;
        }

        /** Which of those left up are blocked, if they alone are up. */
        int blockedOf(int left) {
            int bits = 0;
            for (int g = 0; g <= MOST_GROUP; g++) {
                int there = left & sitesIn(g);
                if (!allDecided(there) && verdict(there, there) == NONE) {
                    bits |= there;
                }
            }
            return bits;
        }

        int tellVote(int s, int yesOrNo) {
            if (!isSite(s)) {
                return NO_SUCH;
            }
            if (yesOrNo < 0 || yesOrNo > 1) {
                return BAD_NUMBER;
            }
            if (state[s] != NEW) {
                return NOT_NOW;
            }
            int was = votes[s];
            votes[s] = yesOrNo;
            return was;
        }

        int tellWeight(int s, int w) {
            if (!isSite(s)) {
                return NO_SUCH;
            }
            if (w < 1 || w > MOST_WEIGHT) {
                return BAD_NUMBER;
            }
            if (statesIn(all()) != ONLY_NEW) {
                return NOT_NOW;
            }
            int was = weights[s];
            weights[s] = w;
            halveQuorums();
            return was;
        }

        int tellQuorums(int toDo, int toLeave) {
            if (toDo < 1 || toDo > MOST_QUORUM || toLeave < 1 || toLeave > MOST_QUORUM) {
                return BAD_NUMBER;
            }
            int sum = weightOf(all());
            if (toDo + toLeave <= sum) {
                return BAD_NUMBER;
            }
            if (statesIn(all()) != ONLY_NEW) {
                return NOT_NOW;
            }
            yes = toDo;
            no = toLeave;
            return sum;
        }

        int askAll(int k) {
            if (!isLimit(k)) {
                return BAD_NUMBER;
            }
            if (!leads(0, NEW)) {
                return NOT_NOW;
            }
            startAct(k);
            if (votes[0] == 1) {
                if (failsIn(0, all(), READY, ONLY_NEW)) {
                    return phase;
                }
                if (statesIn(all()) == ONLY_READY) {
                    phase = 1;
                    return phase;
                }
            }
            failsIn(0, all(), GONE, UNDECIDED);
            phase = OVER;
            return phase;
        }

        int prepareAll(int k) {
            if (!isLimit(k)) {
                return BAD_NUMBER;
            }
            if (!leads(1, READY)) {
                return NOT_NOW;
            }
            int before = sitesThatAre(ONLY_PRE);
            startAct(k);
            if (!failsIn(0, all(), PRE, ONLY_READY)) {
                int made = sitesThatAre(ONLY_PRE) & ~before;
                phase = form == PLAIN || weightOf(made) >= yes ? 2 : OVER;
            }
            return phase;
        }

        int commitAll(int k) {
            if (!isLimit(k)) {
                return BAD_NUMBER;
            }
            if (!leads(2, PRE)) {
                return NOT_NOW;
            }
            startAct(k);
            failsIn(0, all(), DONE, ALL_BUT_GONE);
            phase = OVER;
            return Integer.bitCount(sitesThatAre(ONLY_DONE));
        }

        boolean leads(int duePhase, int dueState) {
            return phase == duePhase && up[0] == UP && state[0] == dueState;
        }

        int crashSite(int s) {
            if (!isSite(s)) {
                return NO_SUCH;
            }
            if (up[s] == DOWN) {
                return NOT_NOW;
            }
            goDown(s);
            return Integer.bitCount(upBits());
        }

        int wakeSite(int s) {
            if (!isSite(s)) {
                return NO_SUCH;
            }
            if (up[s] != DOWN) {
                return NOT_NOW;
            }
            up[s] = AWAKE;
            return state[s];
        }

        int partAll(int digits) {
            int rest = digits;
            for (int s = n - 1; s >= 0; s--) {
                if (rest < 0 || rest % 10 > MOST_GROUP) {
                    return BAD_NUMBER;
                }
                rest /= 10;
            }
            if (rest != 0) {
                return BAD_NUMBER;
            }
            rest = digits;
            int groups = 0;
            for (int s = n - 1; s >= 0; s--) {
                group[s] = rest % 10;
                groups |= 1 << group[s];
                rest /= 10;
            }
            return Integer.bitCount(groups);
        }

        int finishBy(int s, int k) {
            if (!isSite(s)) {
                return NO_SUCH;
            }
            if (!isLimit(k)) {
                return BAD_NUMBER;
            }
            if (up[s] != UP) {
                return NOT_NOW;
            }
            int there = upIn(group[s]);
            if (lowest(there) != s || allDecided(there)) {
                return NOT_NOW;
            }
            int verdict = verdict(there, there);
            if (verdict == NONE) {
                return NOT_YET;
            }
            carryOut(s, there, verdict, k);
            return verdict;
        }

        int recoverSite(int s) {
            if (!isSite(s)) {
                return NO_SUCH;
            }
            if (up[s] != AWAKE) {
                return NOT_NOW;
            }
            int there = statesIn(upIn(group[s]));
            if (state[s] == NEW) {
                turn(s, GONE, ANY_STATE);
            } else if (state[s] != DONE && state[s] != GONE) {
                if ((there & DECIDED) != 0) {
                    turn(s, (there & ONLY_DONE) != 0 ? DONE : GONE, ANY_STATE);
                } else if (form == PLAIN) {
                    return NOT_YET;
                }
            }
            comeUp(s);
            return state[s];
        }

        int rescueAll(int k) {
            if (!isLimit(k)) {
                return BAD_NUMBER;
            }
            if (form != PLAIN || upBits() != 0) {
                return NOT_NOW;
            }
            int awake = sitesStanding(AWAKE);
            int first = lowest(awake);
            if (first == NONE) {
                return MISSING;
            }
            int set = awake & sitesIn(group[first]);
            if (!hasLast(set)) {
                return NOT_YET;
            }
            int judges = lastOf(set);
            for (int s = 0; s < n; s++) {
                if ((set >> s & 1) == 1) {
                    comeUp(s);
                }
            }
            if (allDecided(set)) {
                return ALL_DECIDED;
            }
            int verdict = verdict(judges, set);
            carryOut(lowest(judges), set, verdict, k);
            return verdict;
        }

        void carryOut(int s, int there, int verdict, int k) {
            startAct(k);
            boolean failed = false;
            if (verdict == TO_DONE_BY_PRE) {
                failed = failsIn(s, there, PRE, turnedToPre());
            } else if (verdict == TO_GONE_BY_HELD) {
                failed = failsIn(s, there, HELD, NEW_OR_READY);
            }
            if (!failed) {
                boolean toDone = verdict == TO_DONE || verdict == TO_DONE_BY_PRE;
                failsIn(s, there, toDone ? DONE : GONE, ANY_STATE);
            }
            if (s == 0) {
                phase = OVER;
            }
        }

        void startAct(int k) {
            limit = k;
            sent = 0;
        }

        /** One part of an act, by those of the states told: whether its sender failed in it. */
        boolean failsIn(int from, int set, int to, int states) {
            turn(from, to, states);
            if (limit == 0) {
                goDown(from);
                return true;
            }
            for (int s = 0; s < n; s++) {
                if (s == from || (set >> s & 1) == 0) {
                    continue;
                }
                sent++;
                if (up[s] == UP && group[s] == group[from]) {
                    turn(s, to, states);
                }
                if (sent == limit) {
                    goDown(from);
                    return true;
                }
            }
            return false;
        }

        void turn(int s, int to, int states) {
            int was = state[s];
            // Only who is asked can get READY, and that one may vote no.
            int is = to == READY && votes[s] == 0 ? GONE : to;
            if ((states >> was & 1) == 0 || was == is) {
                return;
            }
            state[s] = is;
            log.add(s, was, is);
        }

        void goDown(int s) {
            up[s] = DOWN;
            for (int other = 0; other < n; other++) {
                if (up[other] == UP && group[other] == group[s]) {
                    knows[other] &= ~(1 << s);
                }
            }
            if (s == 0) {
                phase = OVER;
            }
        }

        void comeUp(int s) {
            up[s] = UP;
            int there = 0;
            for (int other = 0; other < n; other++) {
                if (up[other] == UP && group[other] == group[s]) {
                    knows[other] |= 1 << s;
                    there |= 1 << other;
                }
            }
            knows[s] = there;
        }

        /** All that the mixes hang on, for two or three sites. */
        int mixKey() {
            int key = n * 2 + form;
            for (int s = 0; s < MIX_SITES; s++) {
                key = key * 8 + votes[s] * 4 + weights[s];
            }
            return (key * 16 + yes) * 16 + no;
        }

        /** The hall as a number, its mix the higher part of it. */
        int standNumber() {
            int number = 0;
            for (int s = 0; s < n; s++) {
                number = number * STATES + state[s];
            }
            return ((number * 8 + upBits()) * 4 + (sitesIn(1) >> 1)) * 4 + phase;
        }

        void standBy(int number) {
            phase = number % 4;
            int groups = number / 4 % 4 * 2;
            int ups = number / 16 % 8;
            int states = number / 128;
            for (int s = n - 1; s >= 0; s--) {
                group[s] = groups >> s & 1;
                up[s] = ups >> s & 1;
                state[s] = states % STATES;
                states /= STATES;
            }
            log.clear();
        }
    }

    /** The lines that tell which site got which state. */
    private static final class Log {
        // Used round and round, so that a new line needs no move of the others.
        final int[] rows;
        int eldest;
        int size;

        Log() {
            rows = new int[MOST_LINES];
        }

        void clear() {
            eldest = 0;
            size = 0;
        }

        void take(Log other) {
            eldest = other.eldest;
            size = other.size;
            System.arraycopy(other.rows, 0, rows, 0, MOST_LINES);
        }

        void add(int s, int was, int is) {
            rows[(eldest + size) % MOST_LINES] = s * 100 + was * 10 + is;
            if (size < MOST_LINES) {
                size++;
            } else {
                eldest = (eldest + 1) % MOST_LINES;
            }
        }

        int lengthOf(int line) {
            int row = rowOf(line);
            return 3 + wordOf(row / 10 % 10).length() + wordOf(row % 10).length();
        }

        int byteOf(int line, int i) {
            int row = rowOf(line);
            if (i == 0) {
                return '0' + row / 100;
            }
            String before = wordOf(row / 10 % 10);
            String behind = wordOf(row % 10);
            int between = 2 + before.length();
            if (i == 1 || i == between) {
                return ' ';
            }
            if (i < between) {
                return before.charAt(i - 2);
            }
            int at = i - between - 1;
            return at >= 0 && at < behind.length() ? behind.charAt(at) : NONE;
        }

        private int rowOf(int line) {
            return rows[(eldest + line) % MOST_LINES];
        }

        private static String wordOf(int state) {
            switch (state) {
                case NEW: return "new";
                case READY: return "ready";
                case PRE: return "pre";
                case HELD: return "held";
                case DONE: return "done";
                default: return "gone";
            }
        }
    }

    /** The halls as they were ahead of the latest calls. */
    private static final class Past {
        // One place more than can be undone: a call writes there before it is known to be refused.
        final Hall[] halls;
        int next;
        int size;

        Past() {
            halls = new Hall[MOST_UNDONE + 1];
            for (int i = 0; i <= MOST_UNDONE; i++) {
                halls[i] = new Hall();
            }
        }

        void remember(Hall hall) {
            halls[next].take(hall);
        }

        int settled(int answer) {
            if (answer >= 0) {
                next = (next + 1) % (MOST_UNDONE + 1);
                size = Math.min(size + 1, MOST_UNDONE);
            }
            return answer;
        }

        void back(Hall hall, int calls) {
            next = Math.floorMod(next - calls, MOST_UNDONE + 1);
            size -= calls;
            hall.take(halls[next]);
        }
    }

    /** Draws that the same seed always gives the same. */
    private static final class Draws {
        int x;

        int next(int m) {
            int drawn = m < 1 ? 0 : x % m;
            x = (709 * x + 4177) % 30011;
            return drawn;
        }

        int nextLimit() {
            int k = next(6);
            return k == 5 ? NONE : k;
        }
    }

    /** A text's deeds, or its first fault. */
    private static final class Script {
        final int[] kinds;
        final int[] sites;
        final int[] extras;
        int deeds;
        int fault;
        int place;
        int told;
        private final byte[] bytes;
        private int length;
        private int at;

        Script() {
            kinds = new int[MOST_DEEDS];
            sites = new int[MOST_DEEDS];
            extras = new int[MOST_DEEDS];
            bytes = new byte[MOST_BYTES];
            place = NONE;
        }

        void read(byte[] tape, int n) {
            System.arraycopy(tape, 0, bytes, 0, n);
            length = n;
            at = 0;
            deeds = 0;
            fault = 0;
            place = NONE;
            told = 0;
            // The deed after the last that may stand is read too: it is the fault.
            for (int i = 0; i <= MOST_DEEDS && at < length && fault == 0; i++) {
                readDeed();
            }
        }

        private void readDeed() {
            int start = at;
            int stop = wordEnd();
            if (stop == start) {
                failHere();
                return;
            }
            int kind = kindOf(start, stop);
            if (kind == NONE) {
                failHere();
            } else if (deeds >= MOST_DEEDS) {
                fail(FAULT_MANY);
            } else {
                at = stop;
                kinds[deeds] = kind;
                sites[deeds] = 0;
                extras[deeds] = NONE;
                if (readRest(kind) && readByte(';')) {
                    deeds++;
                }
            }
        }

        private boolean readRest(int kind) {
            switch (kind) {
                case DEED_ASK:
                case DEED_PREPARE:
                case DEED_COMMIT: return readLimit();
                case DEED_CRASH:
                case DEED_WAKE:
                case DEED_RECOVER: return readSite();
                case DEED_FINISH: return readSite() && readLimit();
                case DEED_VOTE: return readSite() && readVote();
                default: return true;
            }
        }

        private boolean readSite() {
            if (!readByte(' ') || !isDigitHere()) {
                return false;
            }
            sites[deeds] = bytes[at] - '0';
            at++;
            return true;
        }

        private boolean readLimit() {
            if (byteHere() != ' ') {
                return true;
            }
            at++;
            if (!isDigitHere()) {
                return false;
            }
            extras[deeds] = bytes[at] - '0';
            at++;
            return true;
        }

        private boolean readVote() {
            if (!readByte(' ')) {
                return false;
            }
            int stop = wordEnd();
            if (isWord("yes", at, stop)) {
                extras[deeds] = 1;
            } else if (isWord("no", at, stop)) {
                extras[deeds] = 0;
            } else {
                failHere();
                return false;
            }
            at = stop;
            return true;
        }

        private boolean readByte(int due) {
            if (byteHere() != due) {
                failHere();
                return false;
            }
            at++;
            return true;
        }

        private boolean isDigitHere() {
            int here = byteHere();
            boolean digit = here >= '0' && here <= '9';
            if (!digit) {
                failHere();
            }
            return digit;
        }

        private int byteHere() {
            return at < length ? bytes[at] & 255 : NONE;
        }

        private void failHere() {
            fail(wordEnd() > at ? FAULT_WORD : FAULT_OTHER);
        }

        private void fail(int what) {
            fault = what;
            place = at;
        }

        private int wordEnd() {
            int stop = at;
            while (stop < length && bytes[stop] >= 'a' && bytes[stop] <= 'z') {
                stop++;
            }
            return stop;
        }

        private int kindOf(int start, int stop) {
            for (int kind = 0; kind < DEED_KINDS; kind++) {
                if (isWord(deedWord(kind), start, stop)) {
                    return kind;
                }
            }
            return NONE;
        }

        private boolean isWord(String word, int start, int stop) {
            if (word.length() != stop - start) {
                return false;
            }
            for (int i = 0; i < word.length(); i++) {
                if (bytes[start + i] != word.charAt(i)) {
                    return false;
                }
            }
            return true;
        }

        private static String deedWord(int kind) {
            switch (kind) {
                case DEED_ASK: return "ask";
                case DEED_PREPARE: return "prepare";
                case DEED_COMMIT: return "commit";
                case DEED_CRASH: return "crash";
                case DEED_WAKE: return "wake";
                case DEED_FINISH: return "finish";
                case DEED_RECOVER: return "recover";
                case DEED_HEAL: return "heal";
                case DEED_VOTE: return "vote";
                default: return "rescue";
            }
        }
    }

    /** What a search has found of all mixes. */
    private static final class Mixes {
        int key;
        final int[] steps;
        final int[] beside;
        final int[] way;
        int wayLength;
        int size;
        int unlike;
        int most;

        Mixes() {
            key = NONE;
            steps = new int[MIX_NUMBERS];
            beside = new int[STATES];
            way = new int[MOST_WAY];
        }

        void clear() {
            Arrays.fill(steps, NONE);
            Arrays.fill(beside, 0);
            wayLength = NONE;
            size = 0;
            unlike = 0;
            most = 0;
        }

        int stepsTo(int mix) {
            return mix >= 0 && mix < MIX_NUMBERS ? steps[mix] : NONE;
        }

        void note(Hall hall, int mix, int depth) {
            steps[mix] = depth;
            most = depth;
            size++;
            for (int s = 0; s < hall.n; s++) {
                int others = hall.all() & ~(1 << s);
                beside[hall.state[s]] |= hall.statesIn(others);
            }
            if (isUnlike(hall)) {
                unlike++;
            }
        }

        boolean isUnlike(Hall hall) {
            return (hall.statesIn(hall.all()) & DECIDED) == DECIDED;
        }
    }

    /** Goes through all that can come about, fewest acts first and of as few the least numbers first. */
    private static final class Search {
        private final Hall hall;
        // 32 stands an int, so that the room stays small.
        private final int[] seen;
        private final int[] stands;
        private final int[] befores;
        private final int[] acts;
        private final int[] depths;
        private int size;
        private int from;
        final Mixes together;
        final Mixes parted;
        private Mixes found;

        Search() {
            together = new Mixes();
            parted = new Mixes();
            found = together;
            hall = new Hall();
            seen = new int[STAND_NUMBERS / 32];
            stands = new int[MOST_STANDS];
            befores = new int[MOST_STANDS];
            acts = new int[MOST_STANDS];
            depths = new int[MOST_STANDS];
        }

        void start(Hall now, Mixes into) {
            Arrays.fill(seen, 0);
            size = 0;
            from = NONE;
            found = into;
            found.clear();
            hall.open(now.n, now.form);
            hall.takeTerms(now);
            reach(0);
        }

        boolean goesOn() {
            from++;
            return from < size;
        }

        void leadActs() {
            int phase = stands[from] % 4;
            int most = phase == OVER ? NONE - 1 : MIX_LIMIT;
            for (int k = NONE; k <= most; k++) {
                hall.standBy(stands[from]);
                if (lead(phase, k) < 0) {
                    break;
                }
                reach((phase + 1) * 100 + k + 1);
                most = worthTrying(k, most);
            }
        }

        void downActs() {
            for (int s = 0; s < hall.n; s++) {
                hall.standBy(stands[from]);
                if (hall.crashSite(s) >= 0) {
                    reach(400 + s);
                }
            }
        }

        void finishActs() {
            for (int s = 0; s < hall.n; s++) {
                int most = MIX_LIMIT;
                for (int k = NONE; k <= most; k++) {
                    hall.standBy(stands[from]);
                    if (hall.finishBy(s, k) < 0) {
                        break;
                    }
                    reach(500 + 10 * s + k + 1);
                    most = worthTrying(k, most);
                }
            }
        }

        void groupActs() {
            for (int bits = 0; bits <= hall.all(); bits += 2) {
                hall.standBy(stands[from]);
                for (int s = 1; s < hall.n; s++) {
                    hall.group[s] = bits >> s & 1;
                }
                reach(600 + bits);
            }
        }

        private int lead(int phase, int k) {
            switch (phase) {
                case 0: return hall.askAll(k);
                case 1: return hall.prepareAll(k);
                default: return hall.commitAll(k);
            }
        }

        /** The act without a limit tells how many messages there are: a limit above that is as none. */
        private int worthTrying(int k, int most) {
            return k == NONE ? Math.min(most, hall.sent) : most;
        }

        private void reach(int act) {
            int stand = hall.standNumber();
            if (stand < 0 || stand >= STAND_NUMBERS || size >= MOST_STANDS) {
                return;
            }
            int bit = 1 << stand % 32;
            if ((seen[stand / 32] & bit) != 0) {
                return;
            }
            seen[stand / 32] |= bit;
            stands[size] = stand;
            befores[size] = from;
            acts[size] = act;
            depths[size] = from == NONE ? 0 : depths[from] + 1;
            size++;
            int mix = stand / 16;
            if (found.steps[mix] == NONE) {
                found.note(hall, mix, depths[size - 1]);
            }
            if (found.wayLength == NONE && found.isUnlike(hall)) {
                noteWay();
            }
        }

        private void noteWay() {
            int at = size - 1;
            int length = Math.min(depths[at], MOST_WAY);
            found.wayLength = length;
            for (int i = length - 1; i >= 0 && at >= 0; i--) {
                found.way[i] = acts[at];
                at = befores[at];
            }
        }
    }
}
