import java.io.IOException;

/** The sentences ahead of the promises: sites, messages, asking, preparing, committing. */
public final class SitesEdgesTest extends Edges {
    private static void face() {
        edge("public static final int NONE = -1;", () -> due(PreCommitHall.NONE, -1));
        edge("`NONE = -1`: There is none.", () -> {
            due(h.count(8), PreCommitHall.NONE);
            due(h.way(0, 0), PreCommitHall.NONE);
        });
        edge("An object is used for at most 512 calls after it has been made", () -> {
            for (int i = 1; i <= 511; i++) {
                due(h.part(i % 5), i % 5 == 0 ? 1 : 2);
            }
            due(h.site(2, 2), 1);
        });
    }

    private static void terms() {
        edge("SITES 0 to n - 1", () -> {
            for (int n = 2; n <= 5; n++) {
                h.begin(n, 0);
                due(h.site(-1, 0), -2);
                due(h.site(0, 0), 0);
                due(h.site(n - 1, 0), 0);
                due(h.site(n, 0), -2);
                due(h.crash(n), -2);
                due(h.crash(n - 1), n - 1);
            }
        });
        edge("n 2 to 5", () -> {
            for (int n = 2; n <= 5; n++) {
                due(h.begin(n, 0), n);
            }
            refused(() -> h.begin(1, 0), -3);
            refused(() -> h.begin(6, 0), -3);
            refused(() -> h.begin(0, 0), -3);
            refused(() -> h.begin(-3, 0), -3);
            refused(() -> h.begin(Integer.MAX_VALUE, 0), -3);
            refused(() -> h.begin(Integer.MIN_VALUE, 0), -3);
        });
        edge("3 at first", () -> {
            due(h.count(0), 3);
            due(h.site(2, 0), 0);
            due(h.site(3, 0), -2);
        });
        edge("0 NEW, 1 READY, 2 PRE (it is to be committed), 3 HELD (it is to be aborted), 4 DONE (committed), "
            + "5 GONE (aborted)", () -> {
                due(states(), 0);
                h.ask(NONE);
                due(states(), 111);
                h.prepare(NONE);
                due(states(), 222);
                h.commit(NONE);
                due(states(), 444);
                h.begin(3, 0);
                h.finish(0, NONE);
                due(states(), 555);
                h.begin(2, 1);
                h.finish(0, 0);
                due(states(), 30);
            });
        edge("it is DECIDED, if it is 4 or 5", () -> {
            due(h.those(3), 0);
            h.ask(NONE);
            due(h.those(3), 0);
            h.prepare(NONE);
            due(h.those(3), 0);
            h.commit(NONE);
            due(h.those(3), 7);
            h.begin(3, 0);
            h.finish(0, NONE);
            due(h.those(3), 7);
            h.begin(2, 1);
            h.finish(0, 1);
            due(states(), 33);
            due(h.those(3), 0);
        });
        edge("Each is UP (1, at first), DOWN (0), or AWAKE (2)", () -> {
            due(standing(), 111);
            h.crash(1);
            due(standing(), 101);
            h.wake(1);
            due(standing(), 121);
            h.recover(1);
            due(standing(), 111);
        });
    }

    private static void ranges() {
        edge("it has a GROUP 0 to 4 (0 at first)", () -> {
            due(digits(2), 0);
            due(h.part(234), 3);
            due(digits(2), 234);
            refused(() -> h.part(235), -3);
            refused(() -> h.part(254), -3);
            refused(() -> h.part(534), -3);
        });
        edge("a VOTE (1 yes at first, 0 no)", () -> {
            due(digits(3), 111);
            h.vote(1, 0);
            due(digits(3), 101);
            h.ask(2);
            due(states(), 151);
        });
        edge("a WEIGHT 1 to 3 (1 at first)", () -> {
            due(digits(4), 111);
            due(h.weight(1, 3), 1);
            due(h.weight(1, 1), 3);
            refused(() -> h.weight(1, 0), -3);
            refused(() -> h.weight(1, 4), -3);
        });
        edge("KNOWS a set of SITES (all at first)", () -> {
            due(h.site(0, 5), 7);
            for (int n = 2; n <= 5; n++) {
                h.begin(n, 0);
                for (int s = 0; s < n; s++) {
                    due(h.site(s, 5), (1 << n) - 1);
                }
            }
        });
        edge("FORM: 0 plain, 1 by QUORUMS", () -> {
            due(h.count(1), 0);
            h.ask(NONE);
            h.part(1);
            due(h.would(2), 0);
            h.begin(3, 1);
            due(h.count(1), 1);
            h.ask(NONE);
            h.part(1);
            due(h.would(2), -1);
            refused(() -> h.begin(3, 2), -3);
            refused(() -> h.begin(3, -1), -3);
        });
        edge("YES, NO (2 each at first; 1 to 15)", () -> {
            due(h.count(3), 2);
            due(h.count(4), 2);
            due(h.quorum(1, 15), 3);
            due(h.quorum(15, 1), 3);
            due(h.quorum(15, 15), 3);
            refused(() -> h.quorum(0, 15), -3);
            refused(() -> h.quorum(15, 0), -3);
            refused(() -> h.quorum(16, 5), -3);
            refused(() -> h.quorum(5, 16), -3);
        });
    }

    private static void messages() {
        edge("A MESSAGE reaches a SITE, if that is UP and of the GROUP of its sender.", () -> {
            // Site 1 is DOWN, site 2 AWAKE, site 4 elsewhere.
            h.begin(5, 0);
            h.crash(1);
            h.crash(2);
            h.wake(2);
            h.part(3);
            due(h.ask(4), 3);
            due(states(), 10010);
            // The sender's own group need not be the first one.
            h.begin(5, 0);
            h.part(22022);
            h.ask(4);
            due(states(), 11011);
        });
        edge("Who sends MESSAGES sends them one by one to the others as told, rising", () -> {
            int[] due = {10000, 11000, 11100, 11110, 11111};
            for (int k = 0; k < 5; k++) {
                h.begin(5, 0);
                h.ask(k);
                due(states(), due[k]);
            }
            // A sender in the midst of them: those ahead of it come first.
            h.begin(4, 0);
            runText("ask;crash 0;crash 1;crash 3;crash 2;wake 0;wake 1;wake 2;wake 3;");
            h.image(0);
            int[] rescued = {1151, 5151, 5551, 5555};
            for (int k = 0; k < 4; k++) {
                h.restore(0);
                due(h.rescue(k), 0);
                due(states(), rescued[k]);
                due(standing(), 1101);
            }
        });
        edge("with a k (0 to 20) it fails", () -> {
            refused(() -> h.ask(-2), -3);
            refused(() -> h.ask(21), -3);
            refused(() -> h.ask(Integer.MAX_VALUE), -3);
            refused(() -> h.ask(Integer.MIN_VALUE), -3);
            due(h.ask(20), 1);
            h.begin(2, 0);
            due(h.ask(0), 3);
            due(standing(), 1);
        });
        edge("it fails as soon as k of them were sent in its act (reached or not)", () -> {
            h.crash(1);
            h.image(0);
            h.ask(1);
            due(states(), 100);
            due(standing(), 1);
            h.restore(0);
            h.ask(2);
            due(states(), 101);
            due(standing(), 1);
            h.restore(0);
            h.ask(3);
            due(states(), 501);
            due(standing(), 1);
            h.restore(0);
            h.ask(4);
            due(states(), 505);
            due(standing(), 1);
            h.begin(3, 0);
            h.part(10);
            h.ask(1);
            due(states(), 100);
            due(standing(), 11);
            h.begin(3, 0);
            runText("ask;crash 1;prepare 1;");
            due(states(), 211);
            due(standing(), 1);
            h.begin(3, 0);
            runText("ask;prepare;crash 1;commit 1;");
            due(states(), 422);
            due(standing(), 1);
        });
    }

    private static void failing() {
        edge("it is DOWN, and does no more", () -> {
            due(h.ask(2), 3);
            due(states(), 111);
            due(standing(), 11);
            h.begin(3, 0);
            h.vote(2, 0);
            due(h.ask(2), 3);
            due(states(), 115);
            due(standing(), 11);
            h.begin(3, 0);
            h.ask(NONE);
            due(h.prepare(2), 3);
            due(states(), 222);
            h.begin(3, 0);
            runText("ask;prepare 1;");
            h.finish(1, 1);
            due(states(), 222);
            due(standing(), 1);
        });
        edge("what it is itself by a part of its act it is ahead of the MESSAGES of that part", () -> {
            h.ask(1);
            due(states(), 110);
            h.begin(3, 0);
            h.vote(1, 0);
            h.ask(3);
            due(states(), 551);
            h.begin(3, 0);
            runText("ask;prepare 1;");
            due(states(), 221);
            h.begin(3, 0);
            runText("ask;prepare;commit 1;");
            due(states(), 442);
            h.begin(3, 1);
            runText("ask;crash 0;");
            h.image(0);
            h.finish(1, 1);
            due(states(), 133);
            h.restore(0);
            h.finish(1, 2);
            due(states(), 155);
            due(standing(), 1);
            h.begin(3, 0);
            h.finish(0, 1);
            due(states(), 550);
        });
        edge("(k NONE, or fewer MESSAGES than that: it doesn't;", () -> {
            fails("", 2, k -> h.ask(k));
            fails("vote 0 no;", 2, k -> h.ask(k));
            fails("vote 1 no;", 4, k -> h.ask(k));
            fails("ask;", 2, k -> h.prepare(k));
            fails("ask;prepare;", 2, k -> h.commit(k));
            fails("", 2, k -> h.finish(0, k));
            fails("ask;prepare 1;", 2, k -> h.finish(1, k));
            fails("ask;prepare 2;", 1, k -> h.finish(1, k));
            fails("crash 0;crash 1;crash 2;wake 1;wake 2;", 1, k -> h.rescue(k));
        });
        edge("k 0: as soon as it is itself what the first part of its act makes it, with MESSAGES to send or without.",
            () -> {
                atOnce("", () -> h.ask(0), 100, 11);
                atOnce("vote 0 no;", () -> h.ask(0), 500, 11);
                atOnce("vote 1 no;", () -> h.ask(0), 100, 11);
                atOnce("ask;", () -> h.prepare(0), 211, 11);
                atOnce("ask;prepare;", () -> h.commit(0), 422, 11);
                atOnce("", () -> h.finish(0, 0), 500, 11);
                atOnce("ask;prepare 2;", () -> h.finish(1, 0), 242, 1);
                // It is none of those that are to be PRE: it fails as it is.
                atOnce("ask;prepare 1;", () -> h.finish(1, 0), 221, 1);
                // Alone, with nothing to send.
                atOnce("crash 1;crash 2;", () -> h.finish(0, 0), 500, 0);
                atOnce("ask;prepare 1;crash 2;", () -> h.finish(1, 0), 241, 0);
                atOnce("crash 1;crash 2;crash 0;wake 0;", () -> h.rescue(0), 500, 0);
                h.begin(3, 1);
                h.finish(0, 0);
                due(states(), 300);
                h.begin(2, 1);
                h.quorum(2, 1);
                h.part(10);
                h.finish(0, 0);
                due(states(), 30);
                due(standing(), 1);
            });
    }

    /** Behind the text: an act of so many messages fails at that number, but not at one more, nor without a limit. */
    private static void fails(String text, int messages, java.util.function.IntUnaryOperator act) {
        h.begin(3, 0);
        runText(text);
        h.image(0);
        act.applyAsInt(messages);
        int failed = standing();
        h.restore(0);
        act.applyAsInt(messages + 1);
        int above = standing();
        h.restore(0);
        act.applyAsInt(20);
        due(standing(), above);
        h.restore(0);
        act.applyAsInt(NONE);
        due(standing(), above);
        due(Integer.toString(above).chars().filter(c -> c == '1').count()
            - Integer.toString(failed).chars().filter(c -> c == '1').count(), 1);
    }

    private static void atOnce(String text, java.util.function.IntSupplier act, int states, int standing) {
        h.begin(3, 0);
        runText(text);
        act.getAsInt();
        due(states(), states);
        due(standing(), standing);
    }

    private static void knowing() {
        edge("As a SITE (UP, AWAKE) goes DOWN, no SITE that is UP in its GROUP KNOWS it any more.", () -> {
            h.begin(5, 0);
            h.part(11);
            h.crash(2);
            same(known(), "27 27 31 31 31");
            // Who is DOWN itself forgets nobody.
            h.crash(1);
            same(known(), "25 27 31 31 31");
            // Who was AWAKE is forgotten too, by those who are UP alone.
            h.wake(1);
            h.wake(2);
            h.part(0);
            h.crash(1);
            same(known(), "25 27 31 29 29");
            h.begin(3, 0);
            h.ask(0);
            same(known(), "7 6 6");
            h.finish(1, 1);
            same(known(), "7 6 4");
        });
        edge("As one is UP again, all UP in its GROUP KNOW it, and it KNOWS just these and itself.", () -> {
            h.begin(4, 0);
            h.crash(1);
            same(known(), "13 15 13 13");
            h.wake(1);
            same(known(), "13 15 13 13");
            h.part(1);
            h.recover(1);
            same(known(), "15 7 15 13");
            // One that is only AWAKE neither is known nor knows.
            h.begin(3, 0);
            h.crash(1);
            h.crash(2);
            h.wake(1);
            h.wake(2);
            h.recover(1);
            same(known(), "3 3 5");
            // Alone in its group it knows only itself.
            h.begin(2, 0);
            h.part(1);
            h.crash(1);
            h.wake(1);
            h.recover(1);
            same(known(), "3 2");
        });
    }

    private static void phases() {
        edge("PHASE 0 at first; 3 as soon as SITE 0 is DOWN, or has finished.", () -> {
            String[] ahead = {"", "ask;", "ask;prepare;"};
            for (int phase = 0; phase < 3; phase++) {
                h.begin(3, 0);
                runText(ahead[phase] + "crash 2;");
                due(h.count(2), phase);
                h.image(0);
                h.crash(0);
                due(h.count(2), 3);
                h.wake(0);
                h.recover(0);
                due(h.count(2), 3);
                h.restore(0);
                h.finish(0, NONE);
                due(h.count(2), 3);
                h.restore(0);
                h.finish(0, 0);
                due(h.count(2), 3);
                h.restore(0);
                h.part(11);
                h.finish(1, NONE);
                due(h.count(2), phase);
            }
            // One that is BLOCKED hasn't finished.
            h.begin(3, 1);
            h.ask(NONE);
            h.part(11);
            due(h.finish(0, NONE), -4);
            due(h.count(2), 1);
        });
    }

    private static void asking() {
        edge("ASK (PHASE 0, SITE 0 UP and NEW)", () -> {
            h.ask(NONE);
            refused(() -> h.ask(NONE), -5);
            h.prepare(NONE);
            refused(() -> h.ask(NONE), -5);
            h.commit(NONE);
            refused(() -> h.ask(NONE), -5);
            h.begin(3, 0);
            h.finish(0, NONE);
            refused(() -> h.ask(NONE), -5);
            h.begin(3, 0);
            h.crash(0);
            refused(() -> h.ask(NONE), -5);
            h.wake(0);
            refused(() -> h.ask(NONE), -5);
            h.recover(0);
            refused(() -> h.ask(NONE), -5);
        });
        edge("if its VOTE is no, it is GONE, and sends GONE to all others: those reached that aren't DECIDED are GONE; "
            + "PHASE is 3.", () -> {
                // Site 2 is HELD and DOWN, site 3 HELD, sites 1 and 4 are NEW.
                h.begin(5, 1);
                h.part(111);
                h.finish(2, 1);
                h.part(0);
                h.vote(0, 0);
                due(h.ask(NONE), 3);
                due(states(), 55355);
                due(h.count(2), 3);
                same(log(), "2 new held/3 new held/0 new gone/1 new gone/3 held gone/4 new gone/");
                h.begin(3, 0);
                h.part(1);
                h.finish(2, NONE);
                h.part(0);
                h.vote(0, 0);
                h.ask(NONE);
                same(log(), "2 new gone/0 new gone/1 new gone/");
                due(h.count(2), 3);
            });
        edge("Else it is READY, and asks all others: who is reached and NEW is READY or GONE by its VOTE.", () -> {
            h.begin(5, 1);
            h.part(111);
            h.finish(2, 1);
            h.part(0);
            h.vote(4, 0);
            h.ask(4);
            due(states(), 11335);
            h.begin(3, 0);
            h.part(1);
            h.finish(2, NONE);
            h.part(0);
            h.ask(2);
            due(states(), 115);
            h.begin(3, 0);
            h.vote(1, 0);
            h.ask(2);
            due(states(), 151);
            same(log(), "0 new ready/1 new gone/2 new ready/");
        });
        edge("If all SITES are READY (asked in this act) PHASE is 1.", () -> {
            due(h.ask(NONE), 1);
            due(h.count(2), 1);
            notAllReady("vote 2 no;");
            notAllReady("crash 2;");
            notAllReady("crash 1;wake 1;");
            notAllReady("crash 2;wake 2;recover 2;");
            h.begin(3, 0);
            h.part(10);
            due(h.ask(NONE), 3);
            h.begin(3, 1);
            h.part(11);
            h.finish(1, 1);
            h.part(0);
            due(h.ask(NONE), 3);
        });
        edge("Else it is GONE, and sends GONE to all others (these MESSAGES, too, are counted), as above; PHASE is 3.",
            () -> {
                h.vote(1, 0);
                h.image(0);
                int[] due = {151, 551, 555, 555};
                for (int k = 2; k <= 5; k++) {
                    h.restore(0);
                    due(h.ask(k), 3);
                    due(states(), due[k - 2]);
                    due(standing(), k < 5 ? 11 : 111);
                }
                same(log(), "0 new ready/1 new gone/2 new ready/0 ready gone/2 ready gone/");
                due(h.count(2), 3);
                // Those that aren't reached stay as they are.
                h.begin(4, 0);
                h.crash(2);
                h.part(1);
                h.ask(NONE);
                due(states(), 5500);
            });
    }

    private static void notAllReady(String text) {
        h.begin(3, 0);
        runText(text);
        due(h.ask(NONE), 3);
        due(h.count(2), 3);
        due(h.site(0, 0), 5);
    }

    private static void preparing() {
        edge("PREPARE (PHASE 1, SITE 0 UP and READY)", () -> {
            refused(() -> h.prepare(NONE), -5);
            h.ask(NONE);
            h.image(0);
            due(h.prepare(NONE), 2);
            refused(() -> h.prepare(NONE), -5);
            h.commit(NONE);
            refused(() -> h.prepare(NONE), -5);
            h.restore(0);
            h.crash(0);
            refused(() -> h.prepare(NONE), -5);
            h.wake(0);
            refused(() -> h.prepare(NONE), -5);
            h.begin(2, 1);
            runText("ask;crash 0;wake 0;recover 0;");
            due(states(), 11);
            due(standing(), 11);
            refused(() -> h.prepare(NONE), -5);
        });
        edge("it is PRE, sends PRE to all others: those reached that are READY are PRE.", () -> {
            h.ask(NONE);
            h.part(1);
            h.finish(2, NONE);
            h.part(0);
            due(h.prepare(NONE), 2);
            due(states(), 225);
            h.begin(5, 1);
            h.ask(NONE);
            h.part(111);
            h.finish(2, 1);
            h.part(0);
            due(states(), 11331);
            due(h.prepare(NONE), 2);
            due(states(), 22332);
            h.begin(4, 0);
            h.ask(NONE);
            h.crash(1);
            h.part(1);
            h.prepare(NONE);
            due(states(), 2121);
        });
        edge("PHASE is 2, by QUORUMS only if the WEIGHTS of itself and those it made PRE are YES at least, else 3.",
            () -> {
                prepared(5, 1, 111, 3);
                prepared(5, 1, 11, 2);
                prepared(5, 0, 1111, 2);
                prepared(2, 1, 1, 3);
                h.begin(3, 1);
                h.weight(0, 3);
                h.image(0);
                h.ask(NONE);
                h.part(11);
                due(h.prepare(NONE), 2);
                h.restore(0);
                h.quorum(4, 2);
                h.ask(NONE);
                h.image(1);
                h.part(11);
                due(h.prepare(NONE), 3);
                due(h.count(2), 3);
                h.restore(1);
                h.part(1);
                due(h.prepare(NONE), 2);
                h.begin(3, 1);
                h.weight(2, 3);
                h.ask(NONE);
                h.part(10);
                due(h.prepare(NONE), 2);
                // All are made PRE, but it fails behind the last MESSAGE.
                h.begin(3, 1);
                h.ask(NONE);
                due(h.prepare(2), 3);
            });
    }

    private static void prepared(int n, int form, int digits, int phase) {
        h.begin(n, form);
        h.ask(NONE);
        h.part(digits);
        due(h.prepare(NONE), phase);
        due(h.count(2), phase);
    }

    private static void committing() {
        edge("COMMIT (PHASE 2, SITE 0 UP and PRE)", () -> {
            refused(() -> h.commit(NONE), -5);
            h.ask(NONE);
            refused(() -> h.commit(NONE), -5);
            h.prepare(NONE);
            h.image(0);
            due(h.commit(NONE), 3);
            refused(() -> h.commit(NONE), -5);
            h.restore(0);
            h.crash(0);
            refused(() -> h.commit(NONE), -5);
            h.wake(0);
            refused(() -> h.commit(NONE), -5);
            h.begin(2, 1);
            runText("ask;prepare;crash 0;wake 0;recover 0;");
            due(states(), 22);
            refused(() -> h.commit(NONE), -5);
        });
        edge("it is DONE, sends DONE to all others: those reached that aren't GONE are DONE. PHASE is 3.", () -> {
            // One still READY, in another group when it was prepared.
            h.ask(NONE);
            h.part(1);
            h.prepare(NONE);
            due(states(), 221);
            h.part(0);
            due(h.commit(NONE), 3);
            due(states(), 444);
            due(h.count(2), 3);
            // One GONE stays so.
            h.begin(3, 0);
            h.ask(NONE);
            h.part(1);
            h.prepare(NONE);
            h.finish(2, NONE);
            h.part(0);
            due(h.commit(NONE), 2);
            due(states(), 445);
            // One HELD is DONE, one HELD and DOWN is not reached.
            h.begin(5, 1);
            h.ask(NONE);
            h.part(111);
            h.finish(2, 1);
            h.part(0);
            h.prepare(NONE);
            due(states(), 22332);
            due(h.commit(NONE), 4);
            due(states(), 44344);
        });
    }

    public static void main(String[] args) throws IOException {
        readDocument();
        part(TERMS);
        face();
        terms();
        ranges();
        messages();
        failing();
        knowing();
        phases();
        asking();
        preparing();
        committing();
        end();
    }
}
