import java.io.IOException;

/** The sentences ahead of the promises: THE LOG, a SCRIPT, its FAULTS, what can be UNDONE, IMAGES, refused calls. */
public final class TextsEdgesTest extends Edges {
    private static final String TWELVE = "heal;heal;heal;heal;heal;heal;heal;heal;heal;heal;heal;heal;";

    private static void logs() {
        edge("THE LOG: a line for each SITE that got another STATE, by act and order in which that was (a SITE may come "
            + "twice)", () -> {
                h.vote(1, 0);
                h.ask(NONE);
                same(log(), "0 new ready/1 new gone/2 new ready/0 ready gone/2 ready gone/");
                // The sender first, then those reached, rising; who is so already gets no line.
                h.begin(4, 0);
                runText("ask;prepare 2;finish 1;");
                same(log(), "0 new ready/1 new ready/2 new ready/3 new ready/0 ready pre/1 ready pre/2 ready pre/"
                    + "3 ready pre/1 pre done/2 pre done/3 pre done/");
                // No state: no line.
                h.begin(3, 0);
                runText("crash 1;wake 1;heal;vote 1 no;");
                h.part(12);
                due(h.lines(), 0);
                h.recover(1);
                same(log(), "1 new gone/");
                h.crash(1);
                h.wake(1);
                h.recover(1);
                same(log(), "1 new gone/");
                h.begin(3, 0);
                runText("ask;crash 0;crash 1;crash 2;wake 0;wake 1;wake 2;rescue;");
                same(log(), "0 new ready/1 new ready/2 new ready/2 ready gone/0 ready gone/1 ready gone/");
            });
        edge("its number, a blank, two words (new, ready, pre, held, done, gone) with a blank, of what it was and is", () -> {
            runText("ask;prepare;commit;");
            same(line(0), "0 new ready");
            same(line(4), "1 ready pre");
            same(line(8), "2 pre done");
            h.begin(5, 1);
            h.finish(0, NONE);
            same(line(4), "4 new held");
            same(line(9), "4 held gone");
            h.begin(4, 0);
            h.ask(NONE);
            h.finish(0, NONE);
            same(line(7), "3 ready gone");
            doneAndGone();
            h.finish(0, NONE);
            same(line(8), "2 gone done");
        });
        edge("It has 60 lines at most (eldest are forgotten).", TextsEdgesTest::sixtyLines);
    }

    /** Sites 1 and 2 are made DONE by site 0, and GONE by site 3, again and again, as site 4 is never reached. */
    private static void turnOnce(int doneOfThem) {
        h.part(0);
        h.wake(3);
        h.recover(3);
        runText("crash 1;crash 2;crash 4;crash 3;wake 3;recover 3;crash 3;");
        runText("wake 1;wake 2;wake 3;wake 4;");
        due(h.rescue(2), 0);
        due(states(), 45551);
        runText("wake 0;recover 0;");
        h.finish(0, doneOfThem);
        due(h.site(1, 0), 4);
    }

    private static void sixtyLines() {
        h.begin(5, 0);
        runText("ask;");
        h.part(11);
        h.prepare(NONE);
        h.commit(2);
        h.finish(3, 0);
        due(states(), 44451);
        StringBuilder due = new StringBuilder(log());
        due(h.lines(), 12);
        // The turns aren't all alike, so that no line can stand for one four lines ahead of it.
        for (int turn = 0; turn < 20; turn++) {
            int reached = turn % 3 == 1 ? 1 : 2;
            turnOnce(reached);
            due.append(turn > 0 && (turn - 1) % 3 == 1 ? "1 done gone/" : "1 done gone/2 done gone/");
            due.append(reached == 1 ? "1 gone done/" : "1 gone done/2 gone done/");
            String[] lines = due.toString().split("/");
            int from = Math.max(0, lines.length - 60);
            due(h.lines(), lines.length - from);
            same(line(0), lines[from]);
            same(line(lines.length - from - 1), lines[lines.length - 1]);
        }
        String[] lines = due.toString().split("/");
        due(lines.length > 70 ? 1 : 0, 1);
        due(h.lines(), 60);
        for (int i = 0; i < 60; i++) {
            same(line(i), lines[lines.length - 60 + i]);
        }
        due(h.sign(60, 0), -2);
        // The eldest are kept with the rest, by undo() and by an IMAGE.
        String kept = log();
        h.begin(2, 0);
        h.ask(NONE);
        h.undo(2);
        same(log(), kept);
        h.image(0);
        h.begin(2, 0);
        h.ask(NONE);
        same(log(), "0 new ready/1 new ready/");
        h.restore(0);
        same(log(), kept);
        turnOnce(2);
        due(h.lines(), 60);
        due(line(0).equals(kept.split("/")[0]) && line(1).equals(kept.split("/")[1])
            && line(2).equals(kept.split("/")[2]) && line(3).equals(kept.split("/")[3]) ? 1 : 0, 0);
    }

    private static void deeds() {
        edge("A SCRIPT in bytes: DEEDS, each with a ; behind it", () -> {
            due(runText("heal;"), 1);
            due(runText("heal;heal;"), 2);
            due(runText(""), 0);
            due(h.fault(0), 0);
            faultOf("heal", 2, 4);
            faultOf("heal,", 2, 4);
            faultOf(";heal;", 2, 0);
            faultOf("heal;;", 2, 5);
            faultOf("heal heal;", 2, 4);
            faultOf("heal;heal", 2, 9);
        });
        edge("of words (a to z) and numbers (one digit), one blank (32) between two of these", () -> {
            due(runText("vote 1 no;"), 1);
            faultOf("vote  1 no;", 2, 5);
            faultOf("vote 1  no;", 2, 7);
            faultOf("vote1 no;", 2, 4);
            faultOf("vote 1no;", 1, 6);
            faultOf("vote 1 no ;", 2, 9);
            faultOf(" vote 1 no;", 2, 0);
            faultOf("heal; heal;", 2, 5);
            faultOf("vote\t1 no;", 2, 4);
            faultOf("Vote 1 no;", 2, 0);
            faultOf("vOte 1 no;", 1, 0);
            faultOf("vote 1 nO;", 1, 7);
            faultOf("crash 11;", 2, 7);
            faultOf("crash /;", 2, 6);
            faultOf("crash :;", 2, 6);
            faultOf("`;", 2, 0);
            faultOf("{;", 2, 0);
            faultOf("a;", 1, 0);
            faultOf("z;", 1, 0);
        });
        edge("ask, prepare, commit (each: alone, or with k)", () -> {
            due(runText("ask;prepare;commit;"), 3);
            due(states(), 444);
            h.begin(3, 0);
            due(runText("ask 1;"), 1);
            due(states(), 110);
            h.begin(3, 0);
            due(runText("ask 9;prepare 0;"), 2);
            due(states(), 211);
            h.begin(3, 0);
            due(runText("ask 3;prepare 3;commit 1;"), 3);
            due(states(), 442);
            faultOf("ask 1 1;", 2, 5);
            faultOf("prepare 1 1;", 2, 9);
            faultOf("commit 1 1;", 2, 8);
            faultOf("ask ;", 2, 4);
            faultOf("prepare ;", 2, 8);
            faultOf("commit ;", 2, 7);
        });
        edge("crash s, wake s, finish s (alone, or with k), recover s", () -> {
            due(runText("crash 1;wake 1;recover 1;finish 0;"), 4);
            due(states(), 555);
            h.begin(3, 0);
            due(runText("finish 0 1;"), 1);
            due(states(), 550);
            due(standing(), 11);
            h.begin(3, 0);
            due(runText("finish 0 0;crash 1;finish 2 9;"), 3);
            due(states(), 505);
            due(standing(), 1);
            faultOf("crash;", 2, 5);
            faultOf("wake;", 2, 4);
            faultOf("finish;", 2, 6);
            faultOf("recover;", 2, 7);
            faultOf("crash 1 1;", 2, 7);
            faultOf("wake 1 1;", 2, 6);
            faultOf("finish 1 1 1;", 2, 10);
            faultOf("recover 1 1;", 2, 9);
            faultOf("finish 1 ;", 2, 9);
        });
        edge("heal (all GROUPS are 0)", () -> {
            h.part(432);
            due(runText("heal;"), 1);
            due(digits(2), 0);
            faultOf("heal 0;", 2, 4);
        });
        edge("vote s yes, vote s no, rescue", () -> {
            due(runText("vote 2 no;vote 1 no;vote 1 yes;"), 3);
            due(digits(3), 110);
            h.begin(3, 0);
            due(runText("crash 0;crash 1;crash 2;wake 2;rescue;"), 5);
            due(states(), 5);
            faultOf("vote;", 2, 4);
            faultOf("vote 1;", 2, 6);
            faultOf("vote yes;", 1, 5);
            faultOf("vote 1 1;", 2, 7);
            faultOf("vote 1 yess;", 1, 7);
            faultOf("vote 1 ye;", 1, 7);
            faultOf("vote 1 yes no;", 2, 10);
            faultOf("vote 1 yes1;", 2, 10);
            faultOf("rescue 1;", 2, 6);
        });
        edge("s, k one digit", () -> {
            due(runText("crash 9;"), 0);
            due(h.fault(2), -2);
            due(runText("wake 3;"), 0);
            due(h.fault(2), -2);
            due(runText("ask 9;"), 1);
            faultOf("ask 10;", 2, 5);
            faultOf("finish 0 10;", 2, 10);
            faultOf("crash 01;", 2, 7);
            faultOf("crash -1;", 2, 6);
            faultOf("ask -1;", 2, 4);
        });
    }

    private static void faults() {
        edge("FAULTS, the first along it, of one place the least", () -> {
            faultOf("crash 1;oops;;", 1, 8);
            faultOf("oops;heal", 1, 0);
            faultOf("heal ;oops;", 2, 4);
            // At the same place: a 13th DEED of a word that is none, or of none at all.
            faultOf(TWELVE + "oops;", 1, 60);
            faultOf(TWELVE + ";", 2, 60);
        });
        edge("1 a word that is none, or can't stand there (wherever one begins that can't: its first byte)", () -> {
            faultOf("hea;", 1, 0);
            faultOf("heals;", 1, 0);
            faultOf("xeal;", 1, 0);
            faultOf("healy;", 1, 0);
            faultOf("hexl;", 1, 0);
            faultOf("hea", 1, 0);
            faultOf("heal;healheal;", 1, 5);
            faultOf("yes;", 1, 0);
            faultOf("no;", 1, 0);
            faultOf("ask no;", 1, 4);
            faultOf("ask ask;", 1, 4);
            faultOf("ask 1ask;", 1, 5);
            faultOf("crash one;", 1, 6);
            faultOf("crash x1;", 1, 6);
            faultOf("finish 1 yes;", 1, 9);
            faultOf("vote 1 maybe;", 1, 7);
            faultOf("vote 1 heal;", 1, 7);
            faultOf("vote no 1;", 1, 5);
        });
        edge("2 anything else that can't stand there (the end: its length)", () -> {
            faultOf("1;", 2, 0);
            faultOf("A;", 2, 0);
            faultOf("heal\n", 2, 4);
            faultOf("heal1;", 2, 4);
            faultOf("healA;", 2, 4);
            faultOf("heal\u0000", 2, 4);
            faultOf("heal\u00bb", 2, 4);
            faultOf("crash \u00b1;", 2, 6);
            faultOf("vote 1 ;", 2, 7);
            faultOf("ask", 2, 3);
            faultOf("ask ", 2, 4);
            faultOf("ask 1", 2, 5);
            faultOf("crash", 2, 5);
            faultOf("crash ", 2, 6);
            faultOf("crash 1", 2, 7);
            faultOf("finish 1 1", 2, 10);
            faultOf("vote 1 ", 2, 7);
            faultOf("vote 1 yes", 2, 10);
            faultOf("heal;heal;rescue", 2, 16);
        });
        edge("3 the first byte of a 13th DEED (with a word that could begin one).", () -> {
            due(runText(TWELVE), 12);
            faultOf(TWELVE + "heal;", 3, 60);
            faultOf(TWELVE + "ask", 3, 60);
            faultOf(TWELVE + "ask x", 3, 60);
            faultOf(TWELVE + "vote 1 maybe;", 3, 60);
            faultOf(TWELVE + "heal;heal;", 3, 60);
            faultOf(TWELVE + "yes;", 1, 60);
            faultOf(TWELVE + "hea", 1, 60);
            faultOf(TWELVE + " heal;", 2, 60);
            faultOf(TWELVE + "1;", 2, 60);
            due(runText("crash 0;crash 1;crash 2;wake 0;wake 1;wake 2;rescue;heal;heal;heal;heal;heal;"), 12);
        });
        edge("DEEDS are done one by one, till one is refused (or can't be).", () -> {
            due(runText("crash 1;crash 1;crash 2;"), 1);
            due(standing(), 101);
            due(h.fault(2), -5);
            due(runText("crash 5;crash 2;"), 0);
            due(standing(), 101);
            due(h.fault(2), -2);
            h.begin(3, 1);
            h.ask(NONE);
            h.part(12);
            due(runText("finish 2;crash 2;"), 0);
            due(h.fault(2), -4);
            due(standing(), 111);
            h.begin(3, 0);
            due(runText("ask;crash 2;wake 2;recover 2;crash 1;"), 3);
            due(h.fault(2), -4);
            due(standing(), 112);
            h.begin(2, 0);
            due(runText("crash 0;crash 1;rescue;wake 0;"), 2);
            due(h.fault(2), -6);
            due(runText("wake 0;rescue;wake 1;"), 1);
            due(h.fault(2), -4);
            due(runText("wake 1;rescue;ask;wake 0;"), 2);
            due(h.fault(2), -5);
        });
    }

    private static void undone() {
        edge("Calls that told SITES, did some (begin(), vote(), weight(), quorum(), ask(), prepare(), commit(), crash(), "
            + "wake(), part(), finish(), recover(), rescue() that aren't refused;", () -> {
                undoneOne("", () -> h.begin(3, 0));
                undoneOne("", () -> h.begin(5, 1));
                undoneOne("", () -> h.vote(1, 0));
                undoneOne("", () -> h.vote(1, 1));
                undoneOne("", () -> h.weight(1, 2));
                undoneOne("", () -> h.quorum(3, 1));
                undoneOne("", () -> h.ask(NONE));
                undoneOne("", () -> h.ask(1));
                undoneOne("ask;", () -> h.prepare(NONE));
                undoneOne("ask;prepare;", () -> h.commit(NONE));
                undoneOne("ask;", () -> h.crash(0));
                undoneOne("ask;crash 0;", () -> h.wake(0));
                undoneOne("", () -> h.part(12));
                undoneOne("", () -> h.part(0));
                undoneOne("", () -> h.finish(0, NONE));
                undoneOne("ask;prepare 1;", () -> h.finish(1, 2));
                undoneOne("crash 1;wake 1;", () -> h.recover(1));
                undoneOne("crash 0;crash 1;crash 2;wake 0;wake 1;wake 2;", () -> h.rescue(1));
                // Questions and refused calls can't be.
                int was = h.count(6);
                refused(() -> h.begin(6, 0), -3);
                refused(() -> h.vote(0, 2), -3);
                refused(() -> h.ask(NONE), -5);
                refused(() -> h.crash(7), -2);
                refused(() -> h.part(5), -3);
                h.would(0);
                h.years(1, 40, 0);
                h.mixes(1, 0);
                h.feed(0, 0, 0, 0, 0);
                h.script(0);
                due(h.count(6), was);
            });
        edge("script() with a DEED that was done, as one", () -> {
            due(runText("crash 1;crash 2;wake 1;"), 3);
            due(h.count(6), 1);
            due(runText("crash 0;crash 0;"), 1);
            due(h.count(6), 2);
            due(runText("crash 0;"), 0);
            due(runText(""), 0);
            due(runText("oops;"), -31);
            due(h.count(6), 2);
            due(h.undo(1), 1);
            due(standing(), 120);
            due(h.undo(1), 0);
            due(standing(), 111);
        });
        edge("can be UNDONE each as a whole, the latest first, 10 at most (eldest are forgotten)", () -> {
            runText("vote 1 no;ask;");
            due(h.undo(1), 0);
            due(states(), 0);
            due(digits(3), 111);
            for (int i = 1; i <= 12; i++) {
                h.part(i % 5 * 10);
                due(h.count(6), Math.min(i, 10));
            }
            for (int i = 11; i > 2; i--) {
                due(h.undo(1), i - 2);
                due(digits(2), i % 5 * 10);
            }
            due(h.undo(1), 0);
            due(digits(2), 20);
            refused(() -> h.undo(1), -3);
        });
        edge("all but THE TAPE", () -> {
            feedText("crash 1;crash 2;");
            h.crash(0);
            feedText("heal;");
            due(h.count(7), 40);
            h.undo(1);
            due(h.count(7), 40);
            due(h.script(16), 2);
            h.undo(1);
            due(h.count(7), 0);
            feedText("heal;");
            h.image(0);
            feedText("heal;");
            h.restore(0);
            due(h.count(7), 40);
            h.script(0);
            h.restore(0);
            due(h.count(7), 0);
        });
        edge("IMAGES 0 to 1: the same (none at first); nothing can be UNDONE behind.", () -> {
            refused(() -> h.restore(0), -6);
            refused(() -> h.restore(1), -6);
            refused(() -> h.image(-1), -2);
            refused(() -> h.image(2), -2);
            refused(() -> h.image(3), -2);
            refused(() -> h.restore(-1), -2);
            refused(() -> h.restore(2), -2);
            refused(() -> h.restore(3), -2);
            h.begin(4, 1);
            runText("ask;prepare 1;");
            String was = hallOnly().replaceFirst("^((\\S+ ){6})\\d+", "$10");
            h.image(1);
            refused(() -> h.restore(0), -6);
            h.begin(2, 0);
            h.crash(0);
            due(h.restore(1), 0);
            same(hallOnly(), was);
            due(h.count(6), 0);
            refused(() -> h.undo(1), -3);
            h.crash(1);
            due(h.undo(1), 0);
            same(hallOnly(), was);
        });
    }

    /** The call can be UNDONE as a whole, in whichever group all are. */
    private static void undoneOne(String text, java.util.function.IntSupplier call) {
        for (int group = 1; group <= 3; group++) {
            h.begin(3, 0);
            runText(text);
            h.part(111 * group);
            String was = hallOnly();
            int undoes = h.count(6);
            due(call.getAsInt() >= 0 ? 1 : 0, 1);
            due(h.count(6), Math.min(undoes + 1, 10));
            due(h.undo(1), Math.min(undoes, 9));
            same(hallOnly().replaceFirst("^((\\S+ ){6})\\d+", "$1" + undoes), was);
        }
    }

    private static void codes() {
        edge("Refused calls answer by a code and change nothing", () -> {
            h.begin(4, 1);
            h.weight(3, 2);
            runText("ask;prepare 2;crash 3;wake 3;");
            h.part(12);
            feedText("heal;");
            refused(() -> h.begin(1, 0), -3);
            refused(() -> h.vote(1, 0), -5);
            refused(() -> h.weight(1, 2), -5);
            refused(() -> h.quorum(4, 4), -5);
            refused(() -> h.ask(NONE), -5);
            refused(() -> h.prepare(NONE), -5);
            refused(() -> h.commit(NONE), -5);
            refused(() -> h.crash(0), -5);
            refused(() -> h.wake(1), -5);
            refused(() -> h.part(10000), -3);
            refused(() -> h.finish(0, 0), -5);
            refused(() -> h.finish(1, 0), -4);
            refused(() -> h.recover(0), -5);
            refused(() -> h.rescue(NONE), -5);
            refused(() -> h.ends(1, 0, 0), -4);
            refused(() -> h.years(0, 0, 0), -3);
            refused(() -> h.script(21), -3);
            refused(() -> h.undo(9), -3);
            refused(() -> h.image(2), -2);
            refused(() -> h.restore(0), -6);
        });
        edge("-30 less the FAULT: a text (THE TAPE is empty then; nothing else changes)", () -> {
            h.crash(1);
            feedText("wake 1;oops;");
            due(h.script(12), -31);
            due(h.count(7), 0);
            due(standing(), 101);
            due(h.count(6), 1);
            faultOf("wake 1;wake", 2, 11);
            faultOf(TWELVE + "wake 1;", 3, 60);
            due(standing(), 101);
        });
        edge("(Of several that which the call tells first; all these ahead of NONE.)", () -> {
            h.ask(NONE);
            due(h.vote(3, 2), -2);
            due(h.vote(0, 2), -3);
            due(h.weight(3, 4), -2);
            due(h.weight(0, 4), -3);
            due(h.quorum(1, 1), -3);
            due(h.ask(21), -3);
            due(h.commit(21), -3);
            due(h.finish(3, 21), -2);
            due(h.finish(1, 21), -3);
            due(h.rescue(21), -3);
            due(h.ends(3, 21, 0), -2);
            due(h.ends(1, 21, 3), -2);
            due(h.ends(1, 21, 0), -3);
            due(h.years(0, 0, 3), -3);
            due(h.mixes(2, 4), -3);
            due(h.beside(6, 2), -2);
            due(h.sign(3, -2), -2);
            due(h.sign(2, -2), -3);
            due(h.restore(2), -2);
            h.begin(4, 0);
            due(h.mixes(2, 0), -3);
            due(h.mixes(0, 4), -2);
            due(h.steps(0, 16, 0), -3);
            due(h.beside(6, 0), -2);
            due(h.beside(0, 2), -3);
            due(h.way(2, 0), -3);
            due(h.way(0, -1), -3);
            // Ahead of NONE.
            h.begin(3, 0);
            h.finish(0, NONE);
            h.crash(2);
            due(h.would(0), -1);
            due(h.would(2), -5);
            due(h.would(3), -2);
            due(h.messages(2), -5);
            due(h.messages(3), -2);
            due(h.could(7), -1);
            due(h.could(8), -2);
        });
        edge("-2 there is none such; -3 a number can't be; -4 it is BLOCKED, can't yet; -5 it can't be now; -6 it is missing",
            () -> {
                due(h.crash(3), -2);
                due(h.ask(21), -3);
                due(h.prepare(NONE), -5);
                due(h.restore(0), -6);
                h.begin(2, 1);
                h.ask(NONE);
                h.part(1);
                due(h.finish(0, NONE), -4);
            });
    }

    public static void main(String[] args) throws IOException {
        readDocument();
        part(TERMS);
        logs();
        deeds();
        faults();
        undone();
        codes();
        end();
    }
}
