import java.util.ArrayDeque;
import java.util.ArrayList;
import java.util.Arrays;
import java.util.List;
import java.util.TreeMap;
import java.util.TreeSet;
import java.util.stream.IntStream;

/** The document once more, written without a thought of room or speed, to compare answers with. */
final class PlainHall {
    private static final String[] WORDS = {"new", "ready", "pre", "held", "done", "gone"};

    static final class Site {
        int state, up = 1, group, vote = 1, weight = 1;
        TreeSet<Integer> knows = new TreeSet<>();

        Site copy() {
            Site other = new Site();
            other.state = state;
            other.up = up;
            other.group = group;
            other.vote = vote;
            other.weight = weight;
            other.knows = new TreeSet<>(knows);
            return other;
        }

        boolean decided() {
            return state == 4 || state == 5;
        }
    }

    /** Thrown as soon as a sender fails: the rest of its act is not done. */
    static final class Failed extends RuntimeException {
        private static final long serialVersionUID = 1L;
    }

    static final class World {
        List<Site> sites = new ArrayList<>();
        int form, phase, yes, no;
        List<String> log = new ArrayList<>();

        World(int n, int form) {
            this.form = form;
            for (int s = 0; s < n; s++) {
                Site site = new Site();
                for (int t = 0; t < n; t++) {
                    site.knows.add(t);
                }
                sites.add(site);
            }
            yes = n / 2 + 1;
            no = n / 2 + 1;
        }

        World copy() {
            World other = new World(0, form);
            for (Site site : sites) {
                other.sites.add(site.copy());
            }
            other.phase = phase;
            other.yes = yes;
            other.no = no;
            other.log = new ArrayList<>(log);
            return other;
        }

        Site at(int s) {
            return sites.get(s);
        }

        int n() {
            return sites.size();
        }

        List<Integer> upWith(int s) {
            List<Integer> all = new ArrayList<>();
            for (int t = 0; t < n(); t++) {
                if (at(t).up == 1 && at(t).group == at(s).group) {
                    all.add(t);
                }
            }
            return all;
        }

        void set(int s, int state) {
            if (at(s).state == state) {
                return;
            }
            log.add(s + " " + WORDS[at(s).state] + " " + WORDS[state]);
            while (log.size() > 60) {
                log.remove(0);
            }
            at(s).state = state;
        }

        void down(int s) {
            at(s).up = 0;
            for (int t : upWith(s)) {
                at(t).knows.remove(s);
            }
            if (s == 0) {
                phase = 3;
            }
        }

        void up(int s) {
            at(s).up = 1;
            at(s).knows = new TreeSet<>(upWith(s));
            for (int t : upWith(s)) {
                at(t).knows.add(s);
            }
        }

        boolean allAre(int state) {
            return sites.stream().allMatch(site -> site.state == state);
        }

        int weight() {
            return sites.stream().mapToInt(site -> site.weight).sum();
        }
    }

    /** One act of a sender with a limit. */
    final class Act {
        final World w;
        final int from;
        final int limit;
        int sent;

        Act(World w, int from, int limit) {
            this.w = w;
            this.from = from;
            this.limit = limit;
        }

        void begun() {
            if (limit == 0) {
                fail();
            }
        }

        void fail() {
            w.down(from);
            throw new Failed();
        }

        void send(List<Integer> to, java.util.function.IntConsumer what) {
            for (int t : to) {
                if (t == from) {
                    continue;
                }
                sent++;
                if (w.at(t).up == 1 && w.at(t).group == w.at(from).group) {
                    what.accept(t);
                }
                if (sent == limit) {
                    fail();
                }
            }
        }
    }

    World w = new World(3, 0);
    ArrayDeque<World> undo = new ArrayDeque<>();
    World[] images = new World[2];
    StringBuilder tape = new StringBuilder();
    int fault, place = -1, told;

    static boolean limitOk(int k) {
        return k >= -1 && k <= 20;
    }

    boolean isSite(int s) {
        return s >= 0 && s < w.n();
    }

    static List<Integer> list(World w, int set) {
        List<Integer> all = new ArrayList<>();
        for (int s = 0; s < w.n(); s++) {
            if ((set >> s & 1) == 1) {
                all.add(s);
            }
        }
        return all;
    }

    static List<Integer> everyone(World w) {
        return list(w, (1 << w.n()) - 1);
    }

    static int bits(Iterable<Integer> sites) {
        int bits = 0;
        for (int s : sites) {
            bits |= 1 << s;
        }
        return bits;
    }

    // A call that can be undone: the world of before is put by if it wasn't refused.
    private int kept(World before, int answer) {
        if (answer >= 0) {
            undo.push(before);
            while (undo.size() > 10) {
                undo.removeLast();
            }
        }
        return answer;
    }

    int begin(int n, int form) {
        if (n < 2 || n > 5 || form < 0 || form > 1) {
            return -3;
        }
        World before = w.copy();
        w = new World(n, form);
        return kept(before, n);
    }

    int vote(int s, int yes) {
        World before = w.copy();
        return kept(before, doVote(w, s, yes));
    }

    int doVote(World w, int s, int yes) {
        if (s < 0 || s >= w.n()) {
            return -2;
        }
        if (yes != 0 && yes != 1) {
            return -3;
        }
        if (w.at(s).state != 0) {
            return -5;
        }
        int was = w.at(s).vote;
        w.at(s).vote = yes;
        return was;
    }

    int weight(int s, int x) {
        if (!isSite(s)) {
            return -2;
        }
        if (x < 1 || x > 3) {
            return -3;
        }
        if (!w.allAre(0)) {
            return -5;
        }
        World before = w.copy();
        int was = w.at(s).weight;
        w.at(s).weight = x;
        w.yes = w.weight() / 2 + 1;
        w.no = w.yes;
        return kept(before, was);
    }

    int quorum(int yes, int no) {
        if (yes < 1 || yes > 15 || no < 1 || no > 15 || yes + no <= w.weight()) {
            return -3;
        }
        if (!w.allAre(0)) {
            return -5;
        }
        World before = w.copy();
        w.yes = yes;
        w.no = no;
        return kept(before, w.weight());
    }

    int ask(int k) {
        World before = w.copy();
        return kept(before, doAsk(w, k));
    }

    int doAsk(World w, int k) {
        if (!limitOk(k)) {
            return -3;
        }
        if (w.phase != 0 || w.at(0).up != 1 || w.at(0).state != 0) {
            return -5;
        }
        Act act = new Act(w, 0, k);
        try {
            if (w.at(0).vote == 0) {
                w.set(0, 5);
                act.begun();
            } else {
                w.set(0, 1);
                act.begun();
                act.send(everyone(w), t -> {
                    if (w.at(t).state == 0) {
                        w.set(t, w.at(t).vote == 1 ? 1 : 5);
                    }
                });
                if (w.allAre(1)) {
                    w.phase = 1;
                    return 1;
                }
                w.set(0, 5);
            }
            act.send(everyone(w), t -> {
                if (!w.at(t).decided()) {
                    w.set(t, 5);
                }
            });
            w.phase = 3;
        } catch (Failed failed) {
            w.phase = 3;
        }
        return 3;
    }

    int prepare(int k) {
        World before = w.copy();
        return kept(before, doPrepare(w, k));
    }

    int doPrepare(World w, int k) {
        if (!limitOk(k)) {
            return -3;
        }
        if (w.phase != 1 || w.at(0).up != 1 || w.at(0).state != 1) {
            return -5;
        }
        int[] got = {w.at(0).weight};
        try {
            Act act = new Act(w, 0, k);
            w.set(0, 2);
            act.begun();
            act.send(everyone(w), t -> {
                if (w.at(t).state == 1) {
                    w.set(t, 2);
                    got[0] += w.at(t).weight;
                }
            });
            w.phase = w.form == 0 || got[0] >= w.yes ? 2 : 3;
        } catch (Failed failed) {
            w.phase = 3;
        }
        return w.phase;
    }

    int commit(int k) {
        World before = w.copy();
        return kept(before, doCommit(w, k));
    }

    int doCommit(World w, int k) {
        if (!limitOk(k)) {
            return -3;
        }
        if (w.phase != 2 || w.at(0).up != 1 || w.at(0).state != 2) {
            return -5;
        }
        w.phase = 3;
        try {
            Act act = new Act(w, 0, k);
            w.set(0, 4);
            act.begun();
            act.send(everyone(w), t -> {
                if (w.at(t).state != 5) {
                    w.set(t, 4);
                }
            });
        } catch (Failed failed) {
            w.phase = 3;
        }
        return (int) w.sites.stream().filter(site -> site.state == 4).count();
    }

    int crash(int s) {
        World before = w.copy();
        return kept(before, doCrash(w, s));
    }

    int doCrash(World w, int s) {
        if (s < 0 || s >= w.n()) {
            return -2;
        }
        if (w.at(s).up == 0) {
            return -5;
        }
        w.down(s);
        return (int) w.sites.stream().filter(site -> site.up == 1).count();
    }

    int wake(int s) {
        World before = w.copy();
        return kept(before, doWake(w, s));
    }

    int doWake(World w, int s) {
        if (s < 0 || s >= w.n()) {
            return -2;
        }
        if (w.at(s).up != 0) {
            return -5;
        }
        w.at(s).up = 2;
        return w.at(s).state;
    }

    int part(int digits) {
        World before = w.copy();
        return kept(before, doPart(w, digits));
    }

    int doPart(World w, int digits) {
        if (digits < 0) {
            return -3;
        }
        String text = String.valueOf(digits);
        while (text.length() < w.n()) {
            text = "0" + text;
        }
        if (text.length() > w.n() || !text.matches("[0-4]*")) {
            return -3;
        }
        for (int s = 0; s < w.n(); s++) {
            w.at(s).group = text.charAt(s) - '0';
        }
        return (int) text.chars().distinct().count();
    }

    static int sum(World w, List<Integer> sites, String states) {
        return sites.stream().filter(s -> states.indexOf('0' + w.at(s).state) >= 0)
            .mapToInt(s -> w.at(s).weight).sum();
    }

    static boolean some(World w, List<Integer> sites, String states) {
        return sites.stream().anyMatch(s -> states.indexOf('0' + w.at(s).state) >= 0);
    }

    static int decide(World w, List<Integer> judges, List<Integer> all) {
        if (some(w, judges, "4")) {
            return 1;
        }
        if (some(w, judges, "5")) {
            return 0;
        }
        if (w.form == 0) {
            if (!some(w, judges, "2")) {
                return 0;
            }
            return some(w, all, "01") ? 2 : 1;
        }
        if (some(w, judges, "2") && sum(w, judges, "12") >= w.yes) {
            return some(w, all, "1") ? 2 : 1;
        }
        if (sum(w, judges, "013") >= w.no) {
            return some(w, all, "01") ? 3 : 0;
        }
        return -1;
    }

    static int tell(World w, List<Integer> sites) {
        return some(w, sites, "0123") ? decide(w, sites, sites) : -1;
    }

    void carry(World w, int s, List<Integer> all, int verdict, int k) {
        try {
            Act act = new Act(w, s, k);
            if (verdict >= 2) {
                int to = verdict == 2 ? 2 : 3;
                String of = verdict == 2 && w.form == 1 ? "1" : "01";
                java.util.function.IntConsumer turn = t -> {
                    if (of.indexOf('0' + w.at(t).state) >= 0) {
                        w.set(t, to);
                    }
                };
                turn.accept(s);
                act.begun();
                act.send(all, turn);
            }
            int end = verdict == 1 || verdict == 2 ? 4 : 5;
            w.set(s, end);
            act.begun();
            act.send(all, t -> w.set(t, end));
        } catch (Failed failed) {
            w.at(s).up = 0;
        }
        if (s == 0) {
            w.phase = 3;
        }
    }

    int finish(int s, int k) {
        World before = w.copy();
        return kept(before, doFinish(w, s, k));
    }

    int doFinish(World w, int s, int k) {
        if (s < 0 || s >= w.n()) {
            return -2;
        }
        if (!limitOk(k)) {
            return -3;
        }
        if (w.at(s).up != 1 || w.upWith(s).get(0) != s || !some(w, w.upWith(s), "0123")) {
            return -5;
        }
        int verdict = decide(w, w.upWith(s), w.upWith(s));
        if (verdict == -1) {
            return -4;
        }
        carry(w, s, w.upWith(s), verdict, k);
        return verdict;
    }

    int recover(int s) {
        World before = w.copy();
        return kept(before, doRecover(w, s));
    }

    int doRecover(World w, int s) {
        if (s < 0 || s >= w.n()) {
            return -2;
        }
        Site site = w.at(s);
        if (site.up != 2) {
            return -5;
        }
        if (!site.decided()) {
            if (site.state == 0) {
                w.set(s, 5);
            } else if (some(w, w.upWith(s), "4")) {
                w.set(s, 4);
            } else if (some(w, w.upWith(s), "5")) {
                w.set(s, 5);
            } else if (w.form == 0) {
                return -4;
            }
        }
        w.up(s);
        return site.state;
    }

    static TreeSet<Integer> lastOf(World w, List<Integer> set) {
        TreeSet<Integer> all = new TreeSet<>(everyone(w));
        for (int s : set) {
            all.retainAll(w.at(s).knows);
        }
        return all;
    }

    static boolean has(World w, List<Integer> set) {
        return !lastOf(w, set).isEmpty() && set.containsAll(lastOf(w, set));
    }

    int rescue(int k) {
        World before = w.copy();
        return kept(before, doRescue(w, k));
    }

    int doRescue(World w, int k) {
        if (!limitOk(k)) {
            return -3;
        }
        if (w.form == 1 || w.sites.stream().anyMatch(site -> site.up == 1)) {
            return -5;
        }
        List<Integer> set = new ArrayList<>();
        for (int s = 0; s < w.n(); s++) {
            if (w.at(s).up == 2 && (set.isEmpty() || w.at(set.get(0)).group == w.at(s).group)) {
                set.add(s);
            }
        }
        if (set.isEmpty()) {
            return -6;
        }
        if (!has(w, set)) {
            return -4;
        }
        List<Integer> last = new ArrayList<>(lastOf(w, set));
        for (int s : set) {
            w.up(s);
        }
        if (!some(w, set, "0123")) {
            return 4;
        }
        int verdict = decide(w, last, set);
        carry(w, last.get(0), set, verdict, k);
        return verdict;
    }

    int site(int s, int what) {
        if (!isSite(s) || what < 0 || what > 5) {
            return -2;
        }
        Site site = w.at(s);
        return new int[] {site.state, site.up, site.group, site.vote, site.weight, bits(site.knows)}[what];
    }

    int would(int s) {
        if (!isSite(s)) {
            return -2;
        }
        return w.at(s).up != 1 ? -5 : tell(w, w.upWith(s));
    }

    int messages(int s) {
        int would = would(s);
        if (would < 0) {
            return would;
        }
        return (w.upWith(s).size() - 1) * (would >= 2 ? 2 : 1);
    }

    static int blockedIn(World w) {
        int bits = 0;
        for (int s = 0; s < w.n(); s++) {
            List<Integer> there = w.upWith(s);
            if (w.at(s).up == 1 && some(w, there, "0123") && decide(w, there, there) == -1) {
                bits |= 1 << s;
            }
        }
        return bits;
    }

    int blocked() {
        return blockedIn(w);
    }

    boolean isSet(int set) {
        return set >= 1 && set < 1 << w.n();
    }

    int could(int set) {
        return isSet(set) ? tell(w, list(w, set)) : -2;
    }

    int split() {
        int pairs = 0;
        for (int a = 1; a < 1 << w.n(); a++) {
            for (int b = a + 1; b < 1 << w.n(); b++) {
                if ((a & b) != 0) {
                    continue;
                }
                int one = decide(w, list(w, a), list(w, a));
                int other = decide(w, list(w, b), list(w, b));
                boolean doneGone = (one == 1 || one == 2) && (other == 0 || other == 3);
                boolean goneDone = (other == 1 || other == 2) && (one == 0 || one == 3);
                if (doneGone || goneDone) {
                    pairs++;
                }
            }
        }
        return pairs;
    }

    int stands(int f) {
        if (f < 0 || f > w.n() - 1) {
            return -3;
        }
        int found = 0;
        for (int lost = 0; lost < 1 << w.n(); lost++) {
            List<Integer> set = list(w, lost);
            if (set.size() != f || set.stream().anyMatch(s -> w.at(s).up != 1)) {
                continue;
            }
            World other = w.copy();
            for (int s : set) {
                other.at(s).up = 0;
            }
            if (blockedIn(other) == 0) {
                found++;
            }
        }
        return found;
    }

    int sets(int what) {
        if (what < 0 || what > 3) {
            return -2;
        }
        int due = what == 0 || what == 2 ? w.yes : w.no;
        int found = 0;
        for (int set = 0; set < 1 << w.n(); set++) {
            if (sum(w, list(w, set), "012345") < due) {
                continue;
            }
            boolean least = true;
            for (int part = 0; part < set; part++) {
                if ((part & ~set) == 0 && sum(w, list(w, part), "012345") >= due) {
                    least = false;
                }
            }
            if (what < 2 || least) {
                found++;
            }
        }
        return found;
    }

    int ends(int s, int k, int what) {
        if (!isSite(s) || what < 0 || what > 2) {
            return -2;
        }
        World paper = w.copy();
        int told = doFinish(paper, s, k);
        if (told < 0) {
            return told;
        }
        List<Integer> decided = new ArrayList<>();
        List<Integer> up = new ArrayList<>();
        for (int t = 0; t < paper.n(); t++) {
            if (paper.at(t).decided()) {
                decided.add(t);
            }
            if (paper.at(t).up == 1) {
                up.add(t);
            }
        }
        return what == 0 ? bits(decided) : what == 1 ? bits(up) : tell(paper, paper.upWith(s));
    }

    int years(int seed, int n, int what) {
        if (seed < 0 || seed > 9999 || n < 1 || n > 40) {
            return -3;
        }
        if (what < 0 || what > 2) {
            return -2;
        }
        World paper = w.copy();
        long[] x = {seed};
        java.util.function.IntUnaryOperator draw = m -> {
            int drawn = (int) (x[0] % m);
            x[0] = (709 * x[0] + 4177) % 30011;
            return drawn;
        };
        int could = 0;
        for (int i = 0; i < n; i++) {
            int kind = draw.applyAsInt(8);
            int s = kind < 3 ? -1 : draw.applyAsInt(paper.n());
            int k = kind < 3 || kind > 5 ? draw.applyAsInt(6) : -1;
            k = k == 5 ? -1 : k;
            int told = kind == 0 ? doAsk(paper, k) : kind == 1 ? doPrepare(paper, k) : kind == 2 ? doCommit(paper, k)
                : kind == 3 ? doCrash(paper, s) : kind == 4 ? doWake(paper, s) : kind == 5 ? doRecover(paper, s)
                : doFinish(paper, s, k);
            could += told >= 0 ? 1 : 0;
        }
        int digits = 0;
        int up = 0;
        for (int s = 0; s < paper.n(); s++) {
            digits = digits * 10 + paper.at(s).state;
            up |= paper.at(s).up == 1 ? 1 << s : 0;
        }
        return what == 0 ? digits : what == 1 ? up : could;
    }

    int last(int set) {
        return isSet(set) ? bits(lastOf(w, list(w, set))) : -2;
    }

    int fewest() {
        for (int size = 1; size <= w.n(); size++) {
            for (int set = 1; set < 1 << w.n(); set++) {
                if (list(w, set).size() == size && has(w, list(w, set))) {
                    return set;
                }
            }
        }
        return -1;
    }

    int those(int what) {
        if (what < 0 || what > 3) {
            return -2;
        }
        int bits = 0;
        for (int s = 0; s < w.n(); s++) {
            Site site = w.at(s);
            boolean[] is = {site.state == 4, site.state == 5, site.up == 1, site.decided() && site.up == 1};
            bits |= is[what] ? 1 << s : 0;
        }
        return bits;
    }

    /** Every mix with its fewest acts, and the least row of numbers to one unlike (null: none). */
    private TreeMap<String, Integer> mixSteps;
    private List<Integer> mixWay;
    private String mixKey = "";

    private static String standOf(World w) {
        StringBuilder text = new StringBuilder();
        for (Site site : w.sites) {
            text.append(site.state);
        }
        text.append('/');
        for (Site site : w.sites) {
            text.append(site.up);
        }
        text.append('/');
        for (Site site : w.sites) {
            text.append(site.group);
        }
        return text.append('/').append(w.phase).toString();
    }

    private static int compareRows(List<Integer> a, List<Integer> b) {
        for (int i = 0; i < Math.min(a.size(), b.size()); i++) {
            if (!a.get(i).equals(b.get(i))) {
                return a.get(i) - b.get(i);
            }
        }
        return a.size() - b.size();
    }

    private void search(int groups) {
        String key = groups + "/" + w.form + "/" + w.yes + "/" + w.no;
        for (Site site : w.sites) {
            key += "/" + site.vote + site.weight;
        }
        if (key.equals(mixKey)) {
            return;
        }
        mixKey = key;
        mixSteps = new TreeMap<>();
        mixWay = null;
        World first = new World(w.n(), w.form);
        first.yes = w.yes;
        first.no = w.no;
        for (int s = 0; s < w.n(); s++) {
            first.at(s).vote = w.at(s).vote;
            first.at(s).weight = w.at(s).weight;
        }
        TreeMap<String, List<Integer>> ways = new TreeMap<>();
        TreeMap<String, World> level = new TreeMap<>();
        ways.put(standOf(first), new ArrayList<>());
        level.put(standOf(first), first);
        for (int depth = 0; !level.isEmpty(); depth++) {
            for (var entry : level.entrySet()) {
                String stand = entry.getKey();
                String mix = stand.substring(0, stand.indexOf('/', stand.indexOf('/') + 1));
                mixSteps.putIfAbsent(mix, depth);
                List<Integer> way = ways.get(stand);
                String states = stand.substring(0, stand.indexOf('/'));
                if (states.contains("4") && states.contains("5")
                    && (mixWay == null || way.size() == mixWay.size() && compareRows(way, mixWay) < 0)) {
                    mixWay = way;
                }
            }
            TreeMap<String, World> next = new TreeMap<>();
            for (var entry : level.entrySet()) {
                for (int act : ACTS) {
                    World other = entry.getValue().copy();
                    if (tryAct(other, act, groups) < 0) {
                        continue;
                    }
                    String stand = standOf(other);
                    List<Integer> way = new ArrayList<>(ways.get(entry.getKey()));
                    way.add(act);
                    if (!ways.containsKey(stand) || next.containsKey(stand) && compareRows(way, ways.get(stand)) < 0) {
                        ways.put(stand, way);
                        next.put(stand, other);
                    }
                }
            }
            level = next;
        }
    }

    // All numbers of acts of three sites, and some that are none.
    private static final int[] ACTS = IntStream.range(100, 610)
        .filter(act -> act % 100 < 6 || act >= 500 && act < 526 || act >= 600).toArray();

    private int tryAct(World w, int act, int groups) {
        int kind = act / 100;
        int rest = act % 100;
        if (kind <= 3) {
            return rest > 5 ? -9 : kind == 1 ? doAsk(w, rest - 1) : kind == 2 ? doPrepare(w, rest - 1)
                : doCommit(w, rest - 1);
        }
        if (kind == 4) {
            return rest < w.n() ? doCrash(w, rest) : -9;
        }
        if (kind == 5) {
            return rest % 10 > 5 ? -9 : doFinish(w, rest / 10, rest % 10 - 1);
        }
        if (groups == 0 || rest % 2 == 1 || rest >= 1 << w.n()) {
            return -9;
        }
        for (int s = 0; s < w.n(); s++) {
            w.at(s).group = rest >> s & 1;
        }
        return 0;
    }

    int mixes(int groups, int what) {
        if (groups != 0 && groups != 1) {
            return -3;
        }
        if (what < 0 || what > 3) {
            return -2;
        }
        if (w.n() > 3) {
            return -5;
        }
        search(groups);
        if (what == 0) {
            return mixSteps.size();
        }
        if (what == 1) {
            return (int) mixSteps.keySet().stream().filter(mix -> mix.split("/")[0].contains("4")
                && mix.split("/")[0].contains("5")).count();
        }
        if (what == 2) {
            return mixWay == null ? -1 : mixWay.size();
        }
        return mixSteps.values().stream().mapToInt(steps -> steps).max().getAsInt();
    }

    int steps(int digits, int up, int groups) {
        String text = String.valueOf(digits);
        while (text.length() < w.n()) {
            text = "0" + text;
        }
        if (text.length() > w.n() || !text.matches("[0-5]*") || up < 0 || up >= 1 << w.n()
            || groups != 0 && groups != 1) {
            return -3;
        }
        if (w.n() > 3) {
            return -5;
        }
        search(groups);
        text += "/";
        for (int s = 0; s < w.n(); s++) {
            text += up >> s & 1;
        }
        return mixSteps.getOrDefault(text, -1);
    }

    int beside(int state, int groups) {
        if (state < 0 || state > 5) {
            return -2;
        }
        if (groups != 0 && groups != 1) {
            return -3;
        }
        if (w.n() > 3) {
            return -5;
        }
        search(groups);
        int bits = 0;
        for (String mix : mixSteps.keySet()) {
            String states = mix.split("/")[0];
            for (int i = 0; i < states.length(); i++) {
                for (int j = 0; j < states.length(); j++) {
                    if (i != j && states.charAt(i) == '0' + state) {
                        bits |= 1 << states.charAt(j) - '0';
                    }
                }
            }
        }
        return bits;
    }

    int way(int groups, int i) {
        if (groups != 0 && groups != 1 || i < 0) {
            return -3;
        }
        if (w.n() > 3) {
            return -5;
        }
        search(groups);
        return mixWay == null || i >= mixWay.size() ? -1 : mixWay.get(i);
    }

    int feed(int a, int b, int c, int d, int e) {
        if (tape.length() > 180) {
            return -3;
        }
        for (int word : new int[] {a, b, c, d, e}) {
            for (byte one : java.nio.ByteBuffer.allocate(4).putInt(word).array()) {
                tape.append((char) (one & 255));
            }
        }
        return tape.length();
    }

    // One token a row: a word, "#" a digit, "_" a blank, ";" itself, "?" what never stands.
    private static final String[] PATTERNS = {
        "ask ;", "ask _ # ;", "prepare ;", "prepare _ # ;", "commit ;", "commit _ # ;", "crash _ # ;", "wake _ # ;",
        "finish _ # ;", "finish _ # _ # ;", "recover _ # ;", "heal ;", "vote _ # _ yes ;", "vote _ # _ no ;",
        "rescue ;"};

    private static boolean fits(List<String> tokens) {
        for (String pattern : PATTERNS) {
            List<String> all = Arrays.asList(pattern.split(" "));
            if (tokens.size() <= all.size() && all.subList(0, tokens.size()).equals(tokens)) {
                return true;
            }
        }
        return false;
    }

    int script(int n) {
        if (n < 0 || n > tape.length()) {
            return -3;
        }
        String text = tape.substring(0, n);
        tape.setLength(0);
        fault = 0;
        place = -1;
        told = 0;
        List<String> deeds = new ArrayList<>();
        List<String> tokens = new ArrayList<>();
        int from = 0;
        int at = 0;
        while (at < n) {
            char c = text.charAt(at);
            int end = at + 1;
            String token = c == ' ' ? "_" : c == ';' ? ";" : c >= '0' && c <= '9' ? "#" : "?";
            if (c >= 'a' && c <= 'z') {
                while (end < n && text.charAt(end) >= 'a' && text.charAt(end) <= 'z') {
                    end++;
                }
                token = text.substring(at, end);
            }
            tokens.add(token);
            if (!fits(tokens)) {
                return faulty(c >= 'a' && c <= 'z' ? 1 : 2, at);
            }
            if (deeds.size() == 12) {
                return faulty(3, at);
            }
            at = end;
            if (token.equals(";")) {
                deeds.add(text.substring(from, at - 1));
                tokens.clear();
                from = at;
            }
        }
        if (!tokens.isEmpty()) {
            return faulty(2, n);
        }
        World before = w.copy();
        int done = 0;
        for (String deed : deeds) {
            int answer = deed(deed.split(" "));
            if (answer < 0) {
                told = answer;
                break;
            }
            done++;
        }
        if (done > 0) {
            kept(before, done);
        }
        return done;
    }

    private int faulty(int what, int where) {
        fault = what;
        place = where;
        return -30 - what;
    }

    private int deed(String[] words) {
        int one = words.length > 1 ? Integer.parseInt(words[1]) : -1;
        switch (words[0]) {
            case "ask": return doAsk(w, one);
            case "prepare": return doPrepare(w, one);
            case "commit": return doCommit(w, one);
            case "crash": return doCrash(w, one);
            case "wake": return doWake(w, one);
            case "finish": return doFinish(w, one, words.length > 2 ? Integer.parseInt(words[2]) : -1);
            case "recover": return doRecover(w, one);
            case "heal": return doPart(w, 0);
            case "vote": return doVote(w, one, words[2].equals("yes") ? 1 : 0);
            default: return doRescue(w, -1);
        }
    }

    int fault(int what) {
        return what == 0 ? fault : what == 1 ? place : what == 2 ? told : -1;
    }

    int lines() {
        return w.log.size();
    }

    int sign(int line, int i) {
        if (line < 0 || line >= w.log.size()) {
            return -2;
        }
        if (i < -1) {
            return -3;
        }
        String text = w.log.get(line);
        return i == -1 ? text.length() : i < text.length() ? text.charAt(i) : -1;
    }

    int undo(int n) {
        if (n < 1 || n > undo.size()) {
            return -3;
        }
        for (int i = 0; i < n; i++) {
            w = undo.pop();
        }
        return undo.size();
    }

    int image(int i) {
        if (i < 0 || i > 1) {
            return -2;
        }
        images[i] = w.copy();
        return 0;
    }

    int restore(int i) {
        if (i < 0 || i > 1) {
            return -2;
        }
        if (images[i] == null) {
            return -6;
        }
        w = images[i].copy();
        undo.clear();
        return 0;
    }

    int count(int what) {
        int[] all = {w.n(), w.form, w.phase, w.yes, w.no, w.weight(), undo.size(), tape.length()};
        return what >= 0 && what < 8 ? all[what] : -1;
    }
}
