import java.io.IOException;

/** The sentences ahead of the promises: finishing, recovering, who was last, rescuing. */
public final class FinishEdgesTest extends Edges {
    /** Five by quorums (3 of 5), all asked; sites 2 and 3 are HELD, site 2 is DOWN, sites 0, 1 and 4 are READY. */
    private static void someHeld() {
        h.begin(5, 1);
        h.ask(NONE);
        h.part(111);
        h.finish(2, 1);
        h.part(0);
    }

    private static void finishers() {
        edge("a SITE that is UP, the lowest such one of its GROUP;", () -> {
            refused(() -> h.finish(1, NONE), -5);
            refused(() -> h.finish(2, NONE), -5);
            h.image(0);
            // Of those below it one is DOWN, or AWAKE, or elsewhere.
            h.crash(0);
            refused(() -> h.finish(0, NONE), -5);
            refused(() -> h.finish(2, NONE), -5);
            due(h.finish(1, NONE), 0);
            h.restore(0);
            h.crash(0);
            h.wake(0);
            refused(() -> h.finish(0, NONE), -5);
            due(h.finish(1, NONE), 0);
            h.restore(0);
            h.part(100);
            due(h.finish(1, NONE), 0);
            due(h.finish(0, NONE), 0);
        });
        edge("some SITE that is UP there isn't DECIDED)", () -> {
            h.part(1);
            h.finish(0, NONE);
            due(states(), 550);
            // Site 2 isn't DECIDED, but elsewhere, DOWN, AWAKE.
            refused(() -> h.finish(0, NONE), -5);
            h.crash(2);
            h.part(0);
            refused(() -> h.finish(0, NONE), -5);
            h.wake(2);
            refused(() -> h.finish(0, NONE), -5);
            // One that is DECIDED itself finishes for another one.
            h.begin(3, 0);
            h.part(1);
            h.finish(0, NONE);
            h.part(0);
            due(h.finish(0, NONE), 0);
            due(states(), 555);
            refused(() -> h.finish(0, NONE), -5);
        });
        edge("by the STATES of all that are UP there: some DONE: DONE. Else some GONE: GONE.", () -> {
            doneAndGone();
            due(states(), 425);
            h.image(0);
            due(h.finish(0, NONE), 1);
            due(states(), 444);
            // Who is DOWN, AWAKE, elsewhere doesn't count.
            h.restore(0);
            h.crash(0);
            due(h.would(1), 0);
            h.wake(0);
            due(h.finish(1, NONE), 0);
            due(states(), 455);
            h.restore(0);
            h.part(100);
            due(h.finish(1, NONE), 0);
            h.restore(0);
            h.crash(2);
            h.part(100);
            due(h.finish(1, NONE), 1);
            due(states(), 445);
            // By quorums likewise.
            h.begin(3, 1);
            h.part(1);
            h.quorum(3, 1);
            h.finish(2, NONE);
            h.part(0);
            due(h.finish(0, NONE), 0);
            h.begin(3, 1);
            h.quorum(1, 3);
            h.ask(NONE);
            h.part(11);
            h.prepare(NONE);
            h.commit(NONE);
            h.part(0);
            due(states(), 411);
            due(h.finish(0, NONE), 1);
            due(states(), 444);
        });
    }

    private static void plain() {
        edge("by FORM 0: some PRE: those NEW or READY are to be PRE, then DONE; else GONE.", () -> {
            due(h.would(0), 0);
            h.ask(NONE);
            due(h.would(0), 0);
            h.prepare(1);
            due(states(), 221);
            h.image(0);
            due(h.finish(1, 1), 2);
            due(states(), 222);
            due(h.finish(2, NONE), 1);
            due(states(), 224);
            h.restore(0);
            due(h.finish(1, NONE), 2);
            due(states(), 244);
            // The one that is PRE is DOWN: it doesn't count.
            h.restore(0);
            h.crash(1);
            due(h.finish(2, NONE), 0);
            due(states(), 225);
            h.begin(2, 0);
            h.finish(0, NONE);
            due(states(), 55);
        });
        edge("In a first part (if some are to be PRE, HELD) it is so itself (if it is one of these), and sends that to all "
            + "others that are UP there;", () -> {
                // A MESSAGE to one that is PRE already is sent and counted.
                h.begin(4, 0);
                runText("ask;prepare 2;");
                due(states(), 2221);
                h.image(0);
                due(h.messages(1), 4);
                h.finish(1, 1);
                due(states(), 2221);
                due(standing(), 11);
                h.restore(0);
                h.finish(1, 2);
                due(states(), 2222);
                due(standing(), 11);
                h.restore(0);
                h.finish(1, 3);
                due(states(), 2442);
                // None is sent to one that is DOWN, AWAKE or elsewhere.
                h.begin(5, 0);
                runText("ask;prepare 1;crash 2;crash 3;wake 3;");
                due(h.messages(1), 2);
                h.finish(1, 1);
                due(states(), 22112);
                h.begin(4, 0);
                runText("ask;prepare 1;");
                h.part(10);
                due(h.messages(1), 2);
                h.finish(1, 1);
                due(states(), 2212);
                // It is one of those itself.
                h.begin(3, 1);
                runText("ask;crash 0;finish 1 0;");
                due(states(), 131);
                // None is to be: there is no first part.
                h.begin(3, 0);
                runText("ask;prepare 2;");
                due(h.messages(1), 1);
                due(h.finish(1, 0), 1);
                due(states(), 242);
                h.begin(2, 1);
                h.quorum(2, 1);
                h.finish(0, 1);
                due(states(), 33);
                due(h.messages(1), 0);
                due(h.finish(1, 0), 0);
                due(states(), 35);
            });
        edge("then it is DECIDED itself, and sends that to them: they are so, whatever they were.", () -> {
            doneAndGone();
            h.finish(0, NONE);
            due(states(), 444);
            doneAndGone();
            h.finish(0, 1);
            due(states(), 445);
            h.begin(5, 1);
            h.part(11);
            due(h.finish(0, 2), 3);
            due(states(), 33300);
            h.begin(5, 1);
            h.part(11);
            due(h.finish(0, 3), 3);
            due(states(), 55300);
            h.begin(5, 1);
            h.part(11);
            due(h.finish(0, 4), 3);
            due(states(), 55500);
            due(standing(), 1111);
        });
        edge("PHASE is 3, if it is SITE 0.", () -> {
            h.ask(NONE);
            h.part(11);
            h.finish(1, NONE);
            due(h.count(2), 1);
            h.finish(0, NONE);
            due(h.count(2), 3);
            due(standing(), 111);
        });
    }

    private static void byQuorums() {
        edge("By FORM 1: some PRE, and the WEIGHTS of those PRE or READY are YES at least: those READY are to be PRE, then "
            + "DONE;", () -> {
                h.begin(5, 1);
                runText("ask;prepare 1;");
                due(states(), 22111);
                h.image(0);
                // Of five 4, 3, 2: YES is 3, though NO is met by those READY, too.
                due(h.would(1), 2);
                h.part(1);
                due(h.would(1), 2);
                h.part(11);
                due(h.would(1), -1);
                refused(() -> h.finish(1, NONE), -4);
                // Without one that is PRE YES is nothing.
                h.restore(0);
                h.crash(1);
                due(h.would(2), 3);
                // Weights count, not sites.
                h.begin(4, 1);
                h.weight(1, 3);
                h.weight(2, 2);
                h.ask(NONE);
                h.prepare(1);
                due(h.count(3), 4);
                h.part(1);
                due(h.would(1), 2);
                h.part(11);
                due(h.would(1), -1);
                // Those HELD don't count for YES, and aren't to be PRE.
                someHeld();
                h.prepare(1);
                due(states(), 22331);
                due(h.would(1), -1);
                h.begin(5, 1);
                h.weight(1, 3);
                h.weight(4, 2);
                h.quorum(5, 4);
                h.ask(NONE);
                h.part(111);
                h.finish(2, 1);
                h.part(0);
                h.prepare(1);
                due(states(), 22331);
                h.image(0);
                due(h.finish(1, 2), 2);
                due(states(), 22332);
                h.restore(0);
                due(h.finish(1, NONE), 2);
                due(states(), 24344);
            });
        edge("else, if the WEIGHTS of those NEW, READY or HELD are NO at least: those NEW or READY are to be HELD, then "
            + "GONE;", () -> {
                h.begin(5, 1);
                h.part(11);
                due(h.would(0), 3);
                due(h.would(3), -1);
                h.part(0);
                h.ask(NONE);
                h.part(11);
                due(h.would(0), 3);
                due(h.would(3), -1);
                // Weights count, not sites.
                h.begin(5, 1);
                h.weight(4, 3);
                due(h.count(4), 4);
                h.part(1);
                due(h.would(0), 3);
                due(h.would(4), -1);
                h.part(11);
                due(h.would(0), -1);
                due(h.would(3), 3);
                // However they would vote.
                h.begin(3, 1);
                h.vote(1, 0);
                due(h.finish(0, 2), 3);
                due(states(), 333);
                // Those PRE don't count for NO, and aren't to be HELD.
                someHeld();
                h.prepare(1);
                h.wake(2);
                h.recover(2);
                due(states(), 22331);
                h.image(0);
                due(h.finish(1, 3), 3);
                due(states(), 22333);
                due(standing(), 111);
                h.restore(0);
                due(h.finish(1, NONE), 3);
                due(states(), 25555);
                // All are HELD already, or PRE: none is to be.
                h.restore(0);
                h.finish(1, 3);
                due(h.would(2), 0);
                due(h.finish(2, NONE), 0);
                due(states(), 22555);
            });
        edge("else it is BLOCKED.", () -> {
            h.begin(4, 1);
            h.ask(NONE);
            h.part(11);
            refused(() -> h.finish(0, NONE), -4);
            refused(() -> h.finish(2, 0), -4);
            due(h.blocked(), 15);
            h.begin(4, 0);
            h.ask(NONE);
            h.part(11);
            due(h.blocked(), 0);
        });
    }

    private static void recovering() {
        edge("To RECOVER (a SITE that is AWAKE)", () -> {
            refused(() -> h.recover(1), -5);
            h.crash(1);
            refused(() -> h.recover(1), -5);
            h.wake(1);
            due(h.recover(1), 5);
            refused(() -> h.recover(1), -5);
        });
        edge("DECIDED: it is UP.", () -> {
            doneAndGone();
            h.crash(2);
            h.wake(2);
            // Beside one that is DONE it stays GONE.
            due(h.recover(2), 5);
            due(states(), 425);
            due(standing(), 111);
            h.crash(0);
            h.wake(0);
            h.part(100);
            due(h.recover(0), 4);
            due(standing(), 111);
        });
        edge("NEW: it is GONE, UP.", () -> {
            for (int form = 0; form < 2; form++) {
                h.begin(3, form);
                runText("crash 1;wake 1;");
                due(h.recover(1), 5);
                due(states(), 50);
                due(standing(), 111);
                same(log(), "1 new gone/");
            }
        });
        edge("Others: if one UP in its GROUP is DONE, or else GONE: it is that, UP;", () -> {
            recovered("ask;prepare;crash 2;commit;wake 2;", 4);
            recovered("ask;prepare 1;crash 2;finish 1;wake 2;", 4);
            recovered("ask;crash 2;finish 0;wake 2;", 5);
            recovered("ask;prepare;crash 2;crash 1;wake 1;finish 0;wake 2;", 4);
            h.begin(3, 0);
            runText("ask;prepare 1;crash 1;finish 2;wake 1;");
            due(states(), 225);
            due(h.recover(1), 5);
            // Those that are DOWN, AWAKE, elsewhere tell it nothing.
            notRecovered("ask;prepare;crash 2;commit 0;crash 1;wake 2;");
            notRecovered("ask;prepare;crash 2;commit 0;crash 1;wake 2;wake 0;");
            notRecovered("ask;crash 2;finish 0;crash 0;crash 1;wake 0;wake 2;");
            h.begin(3, 0);
            runText("ask;prepare;crash 2;commit;wake 2;");
            h.part(1);
            refused(() -> h.recover(2), -4);
            h.part(0);
            due(h.recover(2), 4);
            // DONE ahead of GONE.
            doneAndGone();
            h.crash(1);
            h.wake(1);
            due(h.recover(1), 4);
            // One that was HELD, by quorums.
            h.begin(3, 1);
            h.part(100);
            h.finish(1, 1);
            h.part(0);
            due(states(), 33);
            h.finish(0, NONE);
            h.wake(1);
            due(h.recover(1), 5);
        });
        edge("else by FORM 1: it is UP as it is; by FORM 0 it can't yet.", () -> {
            h.begin(3, 1);
            runText("ask;crash 1;wake 1;");
            due(h.recover(1), 1);
            due(standing(), 111);
            runText("prepare;crash 1;wake 1;");
            due(h.recover(1), 2);
            due(standing(), 111);
            h.begin(2, 1);
            runText("finish 0 0;wake 0;");
            due(h.recover(0), 3);
            due(standing(), 11);
            h.begin(3, 0);
            runText("ask;crash 1;wake 1;");
            refused(() -> h.recover(1), -4);
            due(standing(), 121);
            h.begin(3, 0);
            runText("ask;prepare;crash 1;wake 1;");
            refused(() -> h.recover(1), -4);
        });
    }

    /** Behind the text site 2 recovers so. */
    private static void recovered(String text, int due) {
        h.begin(3, 0);
        runText(text);
        due(h.recover(2), due);
        due(h.site(2, 0), due);
        due(h.site(2, 1), 1);
    }

    private static void notRecovered(String text) {
        h.begin(3, 0);
        runText(text);
        refused(() -> h.recover(2), -4);
        due(h.site(2, 1), 2);
    }

    private static void lasts() {
        edge("LAST of a set of SITES: those that all of them KNOW.", () -> {
            due(h.last(1), 7);
            h.crash(0);
            due(h.last(1), 7);
            due(h.last(2), 6);
            due(h.last(3), 6);
            h.crash(2);
            due(h.last(2), 2);
            due(h.last(4), 6);
            due(h.last(7), 2);
            due(h.last(5), 6);
        });
        edge("The set HAS the last to fail, if there are some in LAST, and all of these are in it.", () -> {
            // Each was alone as it failed: both know only themselves, LAST of both is empty.
            h.begin(2, 0);
            runText("crash 0;wake 0;recover 0;");
            h.part(1);
            runText("crash 1;wake 1;");
            h.part(1);
            h.recover(1);
            h.crash(1);
            h.crash(0);
            h.wake(0);
            h.part(1);
            h.recover(0);
            h.crash(0);
            same(known(), "1 2");
            due(h.last(3), 0);
            h.part(0);
            h.wake(0);
            h.wake(1);
            refused(() -> h.rescue(NONE), -4);
            h.part(1);
            due(h.rescue(NONE), 4);
            // Not all of LAST are in it.
            h.begin(2, 0);
            h.part(1);
            h.crash(0);
            h.crash(1);
            h.wake(0);
            refused(() -> h.rescue(NONE), -4);
            h.part(0);
            h.wake(1);
            due(h.rescue(NONE), 0);
        });
    }

    private static void rescues() {
        edge("RESCUE (FORM 0; no SITE is UP)", () -> {
            h.begin(2, 1);
            runText("crash 0;crash 1;wake 0;wake 1;");
            refused(() -> h.rescue(NONE), -5);
            h.begin(3, 0);
            runText("crash 0;crash 1;wake 0;wake 1;");
            refused(() -> h.rescue(NONE), -5);
            h.crash(2);
            h.wake(2);
            due(h.rescue(NONE), 0);
            h.begin(3, 0);
            refused(() -> h.rescue(NONE), -5);
        });
        edge("those AWAKE in the GROUP of the lowest AWAKE one, if they HAVE it: all of them are UP;", () -> {
            h.begin(4, 0);
            runText("ask;crash 0;crash 1;crash 3;crash 2;wake 1;wake 2;wake 3;");
            h.image(0);
            // Site 0 is DOWN; site 1 is the lowest AWAKE one, site 3 is elsewhere.
            h.part(1);
            due(h.rescue(NONE), 0);
            due(states(), 1551);
            due(standing(), 112);
            same(known(), "15 6 6 12");
            // The last is elsewhere.
            h.restore(0);
            h.part(10);
            refused(() -> h.rescue(NONE), -4);
            h.restore(0);
            h.part(2333);
            due(h.rescue(NONE), 0);
            due(states(), 1555);
            same(known(), "15 14 14 14");
        });
        edge("then the lowest one of LAST FINISHES (if one of them isn't DECIDED) as above", () -> {
            // LAST are 1 and 2: site 1 finishes, and fails.
            h.begin(3, 0);
            h.ask(NONE);
            h.crash(0);
            h.part(10);
            h.crash(1);
            h.crash(2);
            runText("wake 0;wake 1;wake 2;heal;");
            due(h.last(7), 6);
            h.image(0);
            due(h.rescue(0), 0);
            due(states(), 151);
            due(standing(), 101);
            due(h.count(2), 3);
            h.restore(0);
            due(h.rescue(1), 0);
            due(states(), 551);
            h.restore(0);
            due(h.rescue(3), 0);
            due(standing(), 111);
            // All are DECIDED: nobody finishes, whatever k is.
            h.begin(3, 0);
            runText("ask;finish 0;crash 0;crash 1;crash 2;wake 0;wake 1;wake 2;");
            h.image(0);
            for (int k = NONE; k <= 2; k++) {
                h.restore(0);
                due(h.rescue(k), 4);
                due(standing(), 111);
                due(states(), 555);
            }
            // One of them isn't, though LAST is.
            h.begin(2, 0);
            runText("ask;prepare;crash 1;commit;crash 0;wake 0;wake 1;");
            due(states(), 42);
            due(h.last(3), 1);
            due(h.rescue(NONE), 1);
            due(states(), 44);
        });
        edge("but it decides by the STATES of LAST (as it was ahead of that) alone;", () -> {
            // Site 1 is PRE, the last one, site 2, READY.
            h.begin(3, 0);
            runText("ask;prepare 1;crash 1;crash 2;wake 1;wake 2;");
            due(h.rescue(NONE), 0);
            due(states(), 255);
            // Site 0 is DONE, the last one READY: it is GONE by that.
            h.begin(3, 0);
            h.ask(NONE);
            h.part(1);
            h.prepare(NONE);
            h.commit(0);
            h.crash(1);
            due(states(), 421);
            h.part(0);
            runText("wake 1;wake 0;recover 0;crash 0;crash 2;wake 0;wake 2;");
            h.image(0);
            due(h.last(7), 4);
            due(h.rescue(NONE), 0);
            due(states(), 555);
        });
        edge("what it sends goes to all of them, all of them that are NEW or READY may be to be PRE.", () -> {
            // The last one is PRE, sites 0 and 2 aren't LAST.
            h.begin(4, 0);
            h.ask(NONE);
            h.part(11);
            h.prepare(NONE);
            due(states(), 2211);
            h.part(0);
            runText("crash 2;crash 3;crash 0;crash 1;wake 0;wake 1;wake 2;wake 3;");
            due(h.last(15), 2);
            h.image(0);
            int[] due = {2211, 2211, 2221, 2222, 4422, 4442, 4444};
            for (int k = 0; k < due.length; k++) {
                h.restore(0);
                due(h.rescue(k), 2);
                due(states(), due[k]);
                due(standing(), 1011);
            }
            h.restore(0);
            due(h.rescue(NONE), 2);
            due(states(), 4444);
            due(standing(), 1111);
            // None of them is NEW or READY: there is no first part.
            h.begin(2, 0);
            runText("ask;prepare;crash 0;crash 1;wake 0;wake 1;");
            due(h.rescue(0), 1);
            due(states(), 24);
        });
    }

    public static void main(String[] args) throws IOException {
        readDocument();
        part(TERMS);
        finishers();
        plain();
        byQuorums();
        recovering();
        lasts();
        rescues();
        end();
    }
}
