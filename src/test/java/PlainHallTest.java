import java.util.ArrayList;
import java.util.List;
import java.util.Random;

/** Runs of drawn calls, each answer compared with that of the plain model. */
public final class PlainHallTest {
    private static final String[] CALLS = {
        "begin", "vote", "weight", "quorum", "ask", "prepare", "commit", "crash", "wake", "part", "finish", "recover",
        "rescue", "would", "messages", "blocked", "could", "split", "stands", "sets", "ends", "years", "last",
        "fewest", "those", "mixes", "steps", "beside", "way", "feed", "script", "fault", "undo", "image", "restore"};
    private static final int[] OFTEN = {
        2, 4, 3, 3, 9, 9, 5, 9, 8, 6, 8, 7,
        7, 3, 3, 2, 3, 3, 3, 1, 4, 4, 2,
        2, 2, 1, 1, 1, 1, 3, 3, 1, 3, 2, 2};
    private static final String[] SCRIPTS = {
        "ask", "prepare", "commit", "crash", "wake", "finish", "recover", "heal", "vote", "rescue", "yes", "no",
        " ", " ", " ", ";", ";", ";", "0", "1", "2", "3", "9", "a", "A", "{"};
    private static int wrong = 0;

    private final Random random;
    private final PreCommitHall hall = new PreCommitHall();
    private final PlainHall plain = new PlainHall();
    private final List<String> told = new ArrayList<>();
    private final boolean large;

    private PlainHallTest(int seed) {
        random = new Random(seed);
        large = seed % 2 == 0;
    }

    private int draw(int from, int to) {
        return from + random.nextInt(to - from + 1);
    }

    private int site() {
        return random.nextInt(25) == 0 ? draw(-2, 6) : draw(0, plain.w.n() - 1);
    }

    /** Mostly a site for which the call can be. */
    private int siteFor(String name) {
        int s = site();
        for (int i = 0; i < 12 && random.nextInt(8) > 0; i++) {
            if (s >= 0 && s < plain.w.n() && suits(name, s)) {
                return s;
            }
            s = site();
        }
        return s;
    }

    private boolean suits(String name, int s) {
        int up = plain.w.at(s).up;
        switch (name) {
            case "crash": return up != 0;
            case "wake": return up == 0;
            case "recover": return up == 2;
            case "finish":
            case "ends": return up == 1 && plain.w.upWith(s).get(0) == s;
            default: return true;
        }
    }

    /** Mostly what can follow in this phase; a world in which nothing can be begins anew. */
    private String nameFor(String name) {
        boolean lead = name.equals("ask") || name.equals("prepare") || name.equals("commit");
        if (lead && random.nextInt(8) > 0 && plain.w.phase < 3) {
            return CALLS[4 + plain.w.phase];
        }
        boolean over = plain.w.sites.stream().allMatch(site -> site.decided());
        return lead && over && random.nextInt(2) == 0 ? "begin" : name;
    }

    private int limit() {
        return random.nextInt(3) > 0 ? -1 : random.nextInt(25) == 0 ? draw(-3, 23) : draw(0, 9);
    }

    private int groups() {
        return random.nextInt(15) == 0 ? draw(-2, 3) : draw(0, 1);
    }

    private int drawnParting() {
        if (random.nextInt(10) == 0) {
            return draw(-2, 200000);
        }
        int digits = 0;
        for (int s = 0; s < plain.w.n(); s++) {
            digits = digits * 10 + (random.nextInt(3) == 0 ? draw(0, 4) : draw(0, 1));
        }
        return digits;
    }

    private int drawnStates() {
        int digits = 0;
        for (int s = 0; s < plain.w.n(); s++) {
            digits = digits * 10 + (random.nextInt(30) == 0 ? draw(0, 9) : draw(0, 5));
        }
        return digits;
    }

    private String drawnDeed() {
        String[] kinds = {"ask", "prepare", "commit", "crash s", "wake s", "finish s", "recover s", "heal", "vote s yes",
            "vote s no", "rescue", "ask s", "prepare s", "commit s", "finish s s", "crash s", "wake s", "recover s"};
        return kinds[random.nextInt(kinds.length)].replace('s', '#').replaceFirst("cra#h", "crash")
            .replaceFirst("a#k", "ask").replaceFirst("fini#h", "finish").replaceFirst("ye#", "yes")
            .replaceFirst("re#cue", "rescue");
    }

    private String drawnScript() {
        StringBuilder text = new StringBuilder();
        int deeds = random.nextInt(6) == 0 ? draw(10, 14) : draw(0, 5);
        for (int i = 0; i < deeds; i++) {
            String deed = drawnDeed();
            while (deed.indexOf('#') >= 0) {
                deed = deed.replaceFirst("#", "" + (random.nextInt(12) == 0 ? draw(0, 9) : draw(0, plain.w.n() - 1)));
            }
            text.append(deed).append(';');
        }
        if (random.nextInt(2) == 0) {
            int at = random.nextInt(text.length() + 1);
            String piece = SCRIPTS[random.nextInt(SCRIPTS.length)];
            if (random.nextBoolean() && at < text.length()) {
                text.replace(at, at + 1, piece);
            } else {
                text.insert(at, piece);
            }
        }
        return text.toString();
    }

    private void runScript() {
        String text = drawnScript();
        for (int at = 0; at < text.length(); at += 20) {
            int[] words = new int[5];
            for (int i = 0; i < 20; i++) {
                words[i / 4] = words[i / 4] << 8 | (at + i < text.length() ? text.charAt(at + i) : random.nextInt(256));
            }
            same("feed", hall.feed(words[0], words[1], words[2], words[3], words[4]),
                plain.feed(words[0], words[1], words[2], words[3], words[4]));
        }
        int n = text.length() > 200 ? plain.tape.length() : text.length();
        n = random.nextInt(10) == 0 ? draw(-1, 210) : n;
        same("script(" + n + ") " + text, hall.script(n), plain.script(n));
        for (int what = -1; what < 4; what++) {
            same("fault(" + what + ")", hall.fault(what), plain.fault(what));
        }
    }

    private void same(String call, int got, int due) {
        told.add(call + " = " + got);
        if (got != due) {
            wrong++;
            if (wrong <= 3) {
                System.out.println("due is " + due + " behind: " + told);
            }
        }
    }

    private void call() {
        int sum = 0;
        for (int often : OFTEN) {
            sum += often;
        }
        int drawn = random.nextInt(sum);
        int kind = 0;
        while (drawn >= OFTEN[kind]) {
            drawn -= OFTEN[kind];
            kind++;
        }
        call(nameFor(CALLS[kind]));
    }

    private void call(String name) {
        int s = siteFor(name);
        int k = limit();
        int a = draw(-1, 4);
        int b = draw(-1, 4);
        int set = draw(-1, 33);
        int g = groups();
        switch (name) {
            case "begin":
                int n = large ? draw(1, 6) : draw(2, 3);
                int form = random.nextInt(9) == 0 ? draw(-1, 2) : draw(0, 1);
                same("begin(" + n + ", " + form + ")", hall.begin(n, form), plain.begin(n, form));
                break;
            case "vote":
                a = random.nextInt(9) == 0 ? draw(-1, 2) : random.nextInt(4) == 0 ? 0 : 1;
                same("vote(" + s + ", " + a + ")", hall.vote(s, a), plain.vote(s, a));
                break;
            case "weight":
                same("weight(" + s + ", " + a + ")", hall.weight(s, a), plain.weight(s, a));
                break;
            case "quorum":
                a = random.nextInt(5) == 0 ? draw(-1, 17) : draw(1, 5);
                b = random.nextInt(5) == 0 ? draw(-1, 17) : draw(1, 5);
                same("quorum(" + a + ", " + b + ")", hall.quorum(a, b), plain.quorum(a, b));
                break;
            case "ask":
                same("ask(" + k + ")", hall.ask(k), plain.ask(k));
                break;
            case "prepare":
                same("prepare(" + k + ")", hall.prepare(k), plain.prepare(k));
                break;
            case "commit":
                same("commit(" + k + ")", hall.commit(k), plain.commit(k));
                break;
            case "crash":
                same("crash(" + s + ")", hall.crash(s), plain.crash(s));
                break;
            case "wake":
                same("wake(" + s + ")", hall.wake(s), plain.wake(s));
                break;
            case "part":
                int digits = random.nextInt(3) == 0 ? 0 : drawnParting();
                same("part(" + digits + ")", hall.part(digits), plain.part(digits));
                break;
            case "finish":
                same("finish(" + s + ", " + k + ")", hall.finish(s, k), plain.finish(s, k));
                break;
            case "recover":
                same("recover(" + s + ")", hall.recover(s), plain.recover(s));
                break;
            case "rescue":
                same("rescue(" + k + ")", hall.rescue(k), plain.rescue(k));
                break;
            case "could":
                same("could(" + set + ")", hall.could(set), plain.could(set));
                break;
            case "stands":
                same("stands(" + a + ")", hall.stands(a), plain.stands(a));
                break;
            case "sets":
                same("sets(" + a + ")", hall.sets(a), plain.sets(a));
                break;
            case "ends":
                same("ends(" + s + ", " + k + ", " + a + ")", hall.ends(s, k, a), plain.ends(s, k, a));
                break;
            case "last":
                same("last(" + set + ")", hall.last(set), plain.last(set));
                break;
            case "mixes":
                same("mixes(" + g + ", " + a + ")", hall.mixes(g, a), plain.mixes(g, a));
                break;
            case "steps":
                digits = drawnStates();
                b = draw(-1, 9);
                same("steps(" + digits + ", " + b + ", " + g + ")", hall.steps(digits, b, g), plain.steps(digits, b, g));
                break;
            case "beside":
                a = draw(-1, 6);
                same("beside(" + a + ", " + g + ")", hall.beside(a, g), plain.beside(a, g));
                break;
            case "way":
                a = draw(-1, 7);
                same("way(" + g + ", " + a + ")", hall.way(g, a), plain.way(g, a));
                break;
            default:
                callMore(name, s, a);
        }
    }

    private void callMore(String name, int s, int a) {
        switch (name) {
            case "would":
                same("would(" + s + ")", hall.would(s), plain.would(s));
                break;
            case "messages":
                same("messages(" + s + ")", hall.messages(s), plain.messages(s));
                break;
            case "years":
                int seed = random.nextInt(20) == 0 ? draw(-1, 1) * 10000 : draw(0, 9999);
                int n = random.nextInt(20) == 0 ? draw(-1, 1) * 41 : draw(1, 40);
                same("years(" + seed + ", " + n + ", " + a + ")", hall.years(seed, n, a), plain.years(seed, n, a));
                break;
            case "feed":
                if (random.nextInt(10) == 0) {
                    same("feed", hall.feed(1, -2, 3, -4, 5), plain.feed(1, -2, 3, -4, 5));
                }
                break;
            case "script":
                runScript();
                break;
            case "undo":
                n = random.nextInt(3) == 0 ? draw(-1, 12) : 1;
                same("undo(" + n + ")", hall.undo(n), plain.undo(n));
                break;
            case "image":
                a = random.nextInt(9) == 0 ? draw(-1, 2) : draw(0, 1);
                same("image(" + a + ")", hall.image(a), plain.image(a));
                break;
            case "restore":
                a = random.nextInt(9) == 0 ? draw(-1, 2) : draw(0, 1);
                same("restore(" + a + ")", hall.restore(a), plain.restore(a));
                break;
            case "blocked":
                same("blocked()", hall.blocked(), plain.blocked());
                break;
            case "split":
                same("split()", hall.split(), plain.split());
                break;
            case "fewest":
                same("fewest()", hall.fewest(), plain.fewest());
                break;
            case "those":
                same("those(" + a + ")", hall.those(a), plain.those(a));
                break;
            default:
                same("fault(" + a + ")", hall.fault(a), plain.fault(a));
        }
    }

    private void look() {
        int size = told.size();
        for (int s = -1; s <= 5; s++) {
            for (int what = -1; what <= 6; what++) {
                same("site(" + s + ", " + what + ")", hall.site(s, what), plain.site(s, what));
            }
        }
        for (int what = -1; what <= 8; what++) {
            same("count(" + what + ")", hall.count(what), plain.count(what));
        }
        same("lines()", hall.lines(), plain.lines());
        for (int line = -1; line <= plain.lines(); line++) {
            for (int i = -2; i <= 13; i++) {
                same("sign(" + line + ", " + i + ")", hall.sign(line, i), plain.sign(line, i));
            }
        }
        while (told.size() > size) {
            told.remove(told.size() - 1);
        }
    }

    public static void main(String[] args) {
        int runs = args.length > 0 ? Integer.parseInt(args[0]) : 300;
        int from = args.length > 1 ? Integer.parseInt(args[1]) : 0;
        int calls = 0;
        for (int seed = from; seed < from + runs && wrong == 0; seed++) {
            PlainHallTest run = new PlainHallTest(seed);
            for (int i = 0; i < 300 && wrong == 0; i++) {
                run.call();
                if (i % 10 == 0 || i < 20) {
                    run.look();
                }
            }
            calls += run.told.size();
        }
        System.out.println(calls + " drawn calls, " + wrong + " answers unlike the plain model's");
        if (wrong != 0) {
            System.exit(1);
        }
    }
}
