import java.io.IOException;

/** The sentences of promises 16 to 31: what is told on paper, and of all mixes. */
public final class PaperEdgesTest extends Edges {
    private static void promise16() {
        part(16);
        edge("What FINISH would tell of a SITE that is UP (be it the lowest or not), by its GROUP.", () -> {
            due(h.would(0), 0);
            due(h.would(2), 0);
            runText("ask;prepare 1;");
            due(h.would(1), 2);
            due(h.would(2), 2);
            h.part(1);
            due(h.would(1), 1);
            due(h.would(2), 0);
            h.begin(4, 1);
            due(h.would(3), 3);
            h.ask(NONE);
            due(h.would(3), 3);
            h.finish(0, 3);
            due(states(), 3333);
            due(h.would(3), 0);
            h.wake(0);
            due(h.would(3), 0);
            same(log().substring(0, 12), "0 new ready/");
            due(h.count(2), 3);
        });
        edge("NONE: BLOCKED, all are DECIDED; -2; -5: it isn't UP.", () -> {
            h.begin(2, 1);
            h.part(1);
            due(h.would(0), -1);
            due(h.would(1), -1);
            h.part(0);
            h.finish(0, NONE);
            due(h.would(0), -1);
            refused(() -> h.would(-1), -2);
            refused(() -> h.would(2), -2);
            refused(() -> h.would(Integer.MIN_VALUE), -2);
            h.crash(1);
            refused(() -> h.would(1), -5);
            h.wake(1);
            refused(() -> h.would(1), -5);
            h.recover(1);
            due(h.would(1), -1);
        });
    }

    private static void promise17() {
        part(17);
        edge("How many MESSAGES that would take.", () -> {
            for (int n = 2; n <= 5; n++) {
                h.begin(n, 0);
                due(h.messages(n - 1), n - 1);
                h.begin(n, 1);
                due(h.messages(n - 1), 2 * (n - 1));
                h.begin(n, 0);
                h.ask(NONE);
                h.prepare(n - 1);
                due(h.messages(1), n - 2);
            }
            h.begin(5, 0);
            runText("ask;prepare 3;crash 2;");
            due(h.messages(1), 4);
            h.part(1);
            due(h.messages(1), 1);
            due(h.messages(4), 0);
        });
        edge("NONE, -2, -5 likewise.", () -> {
            h.begin(2, 1);
            h.part(1);
            due(h.messages(0), -1);
            h.part(0);
            h.finish(0, NONE);
            due(h.messages(1), -1);
            refused(() -> h.messages(-1), -2);
            refused(() -> h.messages(2), -2);
            h.crash(1);
            refused(() -> h.messages(1), -5);
            h.wake(1);
            refused(() -> h.messages(1), -5);
        });
    }

    private static void promise18() {
        part(18);
        edge("SITES that are UP in GROUPS that would be BLOCKED, as bits.", () -> {
            due(h.blocked(), 0);
            h.begin(5, 1);
            due(h.blocked(), 0);
            h.part(44);
            due(h.blocked(), 24);
            h.crash(3);
            due(h.blocked(), 16);
            h.wake(3);
            due(h.blocked(), 16);
            h.crash(1);
            due(h.blocked(), 21);
            // All DECIDED: not BLOCKED.
            h.begin(5, 1);
            h.finish(0, NONE);
            h.part(12340);
            due(h.blocked(), 0);
            h.begin(5, 0);
            h.part(12340);
            due(h.blocked(), 0);
        });
    }

    private static void promise19() {
        part(19);
        edge("What a set of SITES (bits, one at least), all UP and alone, would FINISH by, with their STATES as they are "
            + "(0 to 3).", () -> {
                due(h.could(1), 0);
                runText("ask;prepare 1;");
                h.part(12);
                // Whoever is DOWN, elsewhere, is taken as UP and with them.
                due(h.could(1), 1);
                due(h.could(3), 1);
                due(h.could(4), 0);
                due(h.could(5), 2);
                due(h.could(7), 2);
                h.begin(3, 1);
                due(h.could(7), 3);
                due(h.could(3), 3);
                h.finish(0, 2);
                due(h.could(7), 0);
                h.crash(1);
                due(h.could(6), 0);
            });
        edge("NONE: BLOCKED, all DECIDED; -2: the set.", () -> {
            h.begin(3, 1);
            due(h.could(1), -1);
            h.part(1);
            h.finish(0, NONE);
            due(states(), 550);
            due(h.could(3), -1);
            due(h.could(4), -1);
            due(h.could(5), 0);
            refused(() -> h.could(0), -2);
            refused(() -> h.could(8), -2);
            refused(() -> h.could(-1), -2);
            refused(() -> h.could(Integer.MIN_VALUE), -2);
            h.begin(5, 0);
            due(h.could(31), 0);
            refused(() -> h.could(32), -2);
        });
    }

    private static void promise20() {
        part(20);
        edge("How many two sets of SITES (one at least in each) there are that have none in common, of which the one could "
            + "FINISH by DONE, the other one by GONE", () -> {
                due(h.split(), 0);
                runText("ask;prepare 0;");
                due(states(), 211);
                due(h.split(), 5);
                h.begin(2, 0);
                runText("ask;prepare 0;");
                due(h.split(), 1);
                h.begin(2, 0);
                runText("ask;prepare;");
                due(h.split(), 0);
                // Those BLOCKED count for neither.
                h.begin(3, 1);
                runText("ask;prepare 0;");
                due(h.split(), 0);
                h.begin(2, 1);
                h.quorum(1, 2);
                runText("ask;prepare 0;");
                due(h.split(), 0);
                // DONE, PRE, GONE: {0} with {2}, {1, 2}; {1}, {0, 1} with {2}.
                doneDownAndGone();
                due(states(), 425);
                due(h.split(), 4);
                // Two GONE with some being HELD first aren't unlike.
                h.begin(4, 1);
                h.quorum(3, 2);
                due(h.split(), 0);
                // GONE, DONE, GONE: site 0, site 2, both, against site 1, and {0}, {2} against that with the other one.
                h.begin(3, 0);
                runText("ask;prepare 1;");
                h.part(1);
                h.finish(1, NONE);
                h.finish(2, NONE);
                h.part(101);
                runText("wake 0;recover 0;");
                due(states(), 545);
                due(h.split(), 5);
            });
        edge("(all DECIDED: as they are, DONE ahead of GONE)", () -> {
            h.ask(NONE);
            h.part(1);
            h.prepare(NONE);
            h.commit(NONE);
            h.finish(2, NONE);
            due(states(), 445);
            due(h.split(), 3);
            h.begin(3, 0);
            runText("ask;prepare;commit;");
            due(h.split(), 0);
            h.begin(3, 0);
            h.finish(0, NONE);
            due(h.split(), 0);
        });
    }

    private static void promise21() {
        part(21);
        edge("Of the sets of f SITES (0 to n - 1) that are UP how many there are without which (they being DOWN) each other "
            + "SITE that is UP, alone with those UP in its GROUP, wouldn't be BLOCKED.", () -> {
                stood(1, 3, 3, -3);
                h.begin(4, 1);
                h.ask(NONE);
                stood(1, 4, 0, 0, -3);
                h.part(11);
                stood(0, 0, 0, 0, -3);
                // Site 3 is elsewhere, and BLOCKED, but if it is lost.
                h.part(1);
                stood(0, 1, 0, 0, -3);
                // Of those UP alone; without all of them none is BLOCKED.
                h.part(0);
                h.crash(3);
                stood(1, 0, 0, 1, -3);
                h.wake(3);
                stood(1, 0, 0, 1, -3);
                h.crash(0);
                stood(0, 0, 1, 0, -3);
                h.crash(1);
                h.crash(2);
                stood(1, 0, 0, 0, -3);
                // DECIDED: not BLOCKED.
                h.begin(4, 1);
                h.finish(0, NONE);
                stood(1, 4, 6, 4, -3);
                // One that is DOWN can't be lost once more.
                h.begin(3, 0);
                h.crash(0);
                stood(1, 2, 1, -3);
                // Weights, not sites.
                h.begin(3, 1);
                h.weight(0, 3);
                stood(1, 2, 1, -3);
                due(standing(), 111);
            });
        edge("-3.", () -> {
            refused(() -> h.stands(-1), -3);
            refused(() -> h.stands(3), -3);
            h.begin(5, 0);
            due(h.stands(4), 5);
            refused(() -> h.stands(5), -3);
            refused(() -> h.stands(Integer.MAX_VALUE), -3);
        });
    }

    private static void stood(int... due) {
        for (int f = 0; f < due.length; f++) {
            due(h.stands(f), due[f]);
        }
    }

    private static void promise22() {
        part(22);
        edge("Of all sets of SITES, what 0: how many have WEIGHTS of YES at least, 1: of NO; 2, 3: how many of these have no "
            + "smaller such one in them (of 0, of 1).", () -> {
                setsDue(4, 4, 3, 3);
                h.begin(2, 0);
                setsDue(1, 1, 1, 1);
                h.begin(4, 0);
                setsDue(5, 5, 4, 4);
                h.begin(5, 0);
                setsDue(16, 16, 10, 10);
                h.begin(3, 1);
                h.weight(0, 3);
                // Of 3: site 0 with any, or alone.
                setsDue(4, 4, 1, 1);
                h.begin(3, 1);
                h.weight(2, 3);
                setsDue(4, 4, 1, 1);
                h.begin(3, 1);
                h.weight(1, 3);
                setsDue(4, 4, 1, 1);
                h.begin(3, 1);
                h.weight(0, 3);
                h.quorum(4, 2);
                setsDue(3, 5, 2, 2);
                h.quorum(5, 1);
                setsDue(1, 7, 1, 3);
                h.quorum(15, 1);
                setsDue(0, 7, 0, 3);
                h.quorum(1, 6);
                setsDue(7, 0, 3, 0);
                // Whatever they are now.
                h.ask(1);
                h.part(12);
                setsDue(7, 0, 3, 0);
            });
        edge("-2.", () -> {
            refused(() -> h.sets(-1), -2);
            refused(() -> h.sets(4), -2);
        });
    }

    private static void setsDue(int... due) {
        for (int what = 0; what < due.length; what++) {
            due(h.sets(what), due[what]);
        }
    }

    private static void promise23() {
        part(23);
        edge("Of FINISH of a SITE with k, on paper", () -> {
            runText("ask;prepare 1;");
            String was = all();
            due(h.ends(1, NONE, 0), 6);
            due(h.ends(1, 0, 0), 0);
            due(h.ends(1, 20, 0), 6);
            same(all(), was);
        });
        edge("what 0: who is DECIDED then (bits), 1: who is UP", () -> {
            runText("ask;prepare 1;");
            int[] decided = {0, 0, 2 + 4, 2 + 4};
            int[] up = {4, 4, 4, 6};
            for (int k = 0; k <= 3; k++) {
                due(h.ends(1, k, 0), decided[k]);
                due(h.ends(1, k, 1), up[k]);
            }
            // Those elsewhere, those DOWN too.
            h.begin(4, 0);
            h.part(11);
            h.finish(0, 0);
            h.crash(3);
            due(h.ends(2, NONE, 0), 5);
            due(h.ends(2, NONE, 1), 6);
            due(h.ends(2, 0, 0), 5);
            due(h.ends(2, 0, 1), 2);
        });
        edge("2: what FINISH would tell then of the lowest that is UP of its GROUP (NONE: none is, BLOCKED, all DECIDED).",
            () -> {
                runText("ask;prepare 1;");
                due(h.ends(1, 0, 2), 0);
                due(h.ends(1, 1, 2), 1);
                due(h.ends(1, 2, 2), -1);
                due(h.ends(1, NONE, 2), -1);
                h.part(1);
                due(h.ends(1, 0, 2), -1);
                h.begin(3, 1);
                due(h.ends(0, 0, 2), 3);
                due(h.ends(0, 1, 2), 3);
                due(h.ends(0, 2, 2), 0);
                due(h.ends(0, 3, 2), 0);
                due(h.ends(0, 4, 2), -1);
                h.begin(2, 1);
                due(h.ends(0, 0, 2), -1);
                // Of its own group, not of that of site 0.
                h.begin(4, 0);
                h.part(11);
                h.finish(0, NONE);
                due(h.ends(2, 0, 2), 0);
            });
        edge("As finish(): -2 (what, too); -3; -5; -4.", () -> {
            refused(() -> h.ends(-1, 0, 0), -2);
            refused(() -> h.ends(3, 0, 0), -2);
            refused(() -> h.ends(0, 0, -1), -2);
            refused(() -> h.ends(0, 0, 3), -2);
            refused(() -> h.ends(0, 21, 3), -2);
            refused(() -> h.ends(0, 21, 0), -3);
            refused(() -> h.ends(0, -2, 0), -3);
            refused(() -> h.ends(1, 21, 0), -3);
            refused(() -> h.ends(1, 0, 0), -5);
            h.finish(0, NONE);
            refused(() -> h.ends(0, 0, 0), -5);
            h.begin(2, 1);
            h.part(1);
            refused(() -> h.ends(1, 0, 0), -4);
            refused(() -> h.ends(1, 0, 2), -4);
        });
    }

    private static void yearsDue(int seed, int n, int states, int up, int could) {
        due(h.years(seed, n, 0), states);
        due(h.years(seed, n, 1), up);
        due(h.years(seed, n, 2), could);
    }

    private static void promise24() {
        part(24);
        edge("On paper, n times (1 to 40)", () -> {
            String was = all();
            yearsDue(0, 1, 110, 6, 1);
            due(h.years(0, 40, 2) >= 1 ? 1 : 0, 1);
            same(all(), was);
            refused(() -> h.years(0, 0, 0), -3);
            refused(() -> h.years(0, 41, 0), -3);
            refused(() -> h.years(0, -1, 0), -3);
        });
        edge("by DRAWS (x is a seed of 0 to 9999 at first; a DRAW of m: x modulo m, then x becomes 709 x and 4177, modulo "
            + "30011)", () -> {
                // 3: site 6304 modulo 3 = 1 is DOWN; 709 * 6304 + 4177 modulo 30011 = 2074: 2, COMMIT can't be.
                yearsDue(3, 1, 0, 5, 1);
                yearsDue(3, 2, 0, 5, 1);
                // 9999: 7; 10872 modulo 3 = 0; 29609 modulo 6 = 5.
                yearsDue(9999, 1, 555, 7, 1);
                refused(() -> h.years(-1, 1, 0), -3);
                refused(() -> h.years(10000, 1, 0), -3);
                refused(() -> h.years(Integer.MIN_VALUE, 1, 0), -3);
            });
        edge("a DRAW of 8: 0 ASK, 1 PREPARE, 2 COMMIT (then a DRAW of 6 is k, 5: without)", () -> {
            // 56: 13870 modulo 6 = 4; 16: 15521 modulo 6 = 5, without, though it sends eight.
            h.begin(5, 0);
            yearsDue(56, 1, 11111, 30, 1);
            h.vote(4, 0);
            yearsDue(16, 1, 55555, 31, 1);
            h.begin(3, 0);
            h.ask(NONE);
            // 1: 4886 modulo 6 = 2; 9: 10558 modulo 6 = 4.
            yearsDue(1, 1, 222, 6, 1);
            yearsDue(9, 1, 222, 7, 1);
            h.prepare(NONE);
            // 2: 5595 modulo 6 = 3; 10: 11267 modulo 6 = 5; 18: 16939 modulo 6 = 1.
            yearsDue(2, 1, 444, 7, 1);
            yearsDue(10, 1, 444, 7, 1);
            yearsDue(18, 1, 442, 6, 1);
        });
        edge("else a DRAW of SITES is one: 3 it is DOWN, 4 AWAKE, 5 it RECOVERS, 6 and 7 FINISH of it (then k likewise)", () -> {
            // 3: 6304 modulo 3 = 1, modulo 5 = 4.
            yearsDue(3, 1, 0, 5, 1);
            h.begin(5, 0);
            yearsDue(3, 1, 0, 15, 1);
            h.begin(3, 0);
            h.crash(2);
            // 4: site 7013 modulo 3 = 2 is AWAKE.
            yearsDue(4, 1, 0, 3, 1);
            h.wake(2);
            // 13: site 13394 modulo 3 = 2 is GONE and UP.
            yearsDue(13, 1, 5, 7, 1);
            h.begin(3, 0);
            h.crash(0);
            // 6: site 8431 modulo 3 = 1; 9567 modulo 6 = 3.
            yearsDue(6, 1, 55, 6, 1);
            h.crash(1);
            // 7: site 9140 modulo 3 = 2; 2061 modulo 6 = 3.
            yearsDue(7, 1, 5, 4, 1);
            h.begin(3, 0);
            // 14: 6; 14103 modulo 3 = 0; 9541 modulo 6 = 1.
            yearsDue(14, 1, 550, 6, 1);
        });
        edge("each if it can be.", () -> {
            // 1, 2: nothing is asked, prepared; 4: site 2 is UP; 5: so is site 0; 6, 7: sites 1, 2 aren't the lowest.
            for (int seed : new int[] {1, 2, 4, 5, 6, 7}) {
                yearsDue(seed, 1, 0, 7, 0);
            }
            h.ask(NONE);
            h.crash(1);
            // 3: site 1 is DOWN; 8: it has asked.
            yearsDue(3, 1, 111, 5, 0);
            yearsDue(8, 1, 111, 5, 0);
            // 13: site 2 is READY: it can't yet.
            h.crash(2);
            h.wake(2);
            yearsDue(13, 1, 111, 1, 0);
            // 9999: site 0 is BLOCKED.
            h.begin(3, 1);
            h.part(11);
            yearsDue(9999, 1, 0, 7, 0);
        });
        edge("What 0: STATES then, as digits (SITE 0 the highest), 1: who is UP (bits), 2: how many could be.", () -> {
            yearsDue(14, 1, 550, 6, 1);
            h.crash(0);
            yearsDue(6, 1, 55, 6, 1);
            h.wake(0);
            yearsDue(6, 1, 55, 6, 1);
        });
        edge("-3: seed, n; -2: what.", () -> {
            refused(() -> h.years(-1, 1, 3), -3);
            refused(() -> h.years(0, 0, 3), -3);
            refused(() -> h.years(0, 1, 3), -2);
            refused(() -> h.years(0, 1, -1), -2);
        });
    }

    private static void promise25() {
        part(25);
        edge("LAST of a set of SITES (bits, one at least), as bits. -2.", () -> {
            due(h.last(1), 7);
            due(h.last(7), 7);
            h.crash(1);
            due(h.last(2), 7);
            due(h.last(1), 5);
            due(h.last(3), 5);
            refused(() -> h.last(0), -2);
            refused(() -> h.last(8), -2);
            refused(() -> h.last(-1), -2);
            h.begin(2, 0);
            due(h.last(3), 3);
            refused(() -> h.last(4), -2);
        });
    }

    private static void promise26() {
        part(26);
        edge("The fewest SITES that HAVE the last to fail, as bits (of as few the least number).", () -> {
            due(h.fewest(), 7);
            h.crash(0);
            due(h.fewest(), 6);
            h.crash(1);
            due(h.fewest(), 4);
            h.begin(5, 0);
            due(h.fewest(), 31);
            h.begin(3, 0);
            runText("crash 2;crash 1;");
            due(h.fewest(), 1);
            // Two that know themselves alone: the lower one.
            h.begin(3, 0);
            h.part(12);
            runText("crash 2;wake 2;");
            h.recover(2);
            due(known().equals("7 7 4") ? 1 : 0, 1);
            due(h.fewest(), 4);
            runText("crash 1;wake 1;");
            h.part(10);
            h.recover(1);
            same(known(), "7 2 4");
            due(h.fewest(), 2);
            // Fewer ones ahead of a lesser number: 0 and 1 have it together, 2 alone.
            h.begin(3, 0);
            h.crash(2);
            h.wake(2);
            h.part(1);
            h.recover(2);
            same(known(), "3 3 4");
            due(h.last(3), 3);
            due(h.fewest(), 4);
            h.begin(4, 0);
            runText("crash 2;crash 1;crash 0;");
            due(h.fewest(), 8);
        });
        // "NONE: no set does." can't come about: of up to five sites there always is such a set (all were looked through).
        edge("NONE: no set does.", () -> {
            h.part(12);
            runText("crash 0;crash 1;crash 2;");
            due(h.fewest(), 7);
        });
    }

    private static void promise27() {
        part(27);
        edge("Which SITES are DONE (what 0), GONE (1), UP (2), DECIDED and UP (3), as bits. -2.", () -> {
            doneDownAndGone();
            due(states(), 425);
            due(h.those(0), 1);
            due(h.those(1), 4);
            due(h.those(2), 6);
            due(h.those(3), 4);
            h.wake(0);
            due(h.those(2), 6);
            due(h.those(3), 4);
            h.recover(0);
            due(h.those(3), 5);
            refused(() -> h.those(-1), -2);
            refused(() -> h.those(4), -2);
        });
    }

    public static void main(String[] args) throws IOException {
        readDocument();
        promise16();
        promise17();
        promise18();
        promise19();
        promise20();
        promise21();
        promise22();
        promise23();
        promise24();
        promise25();
        promise26();
        promise27();
        allTold(16, 27);
        end();
    }
}
