import java.io.IOException;

/** The sentences of promises 1 to 15 and 32 to 40: what does something, what is told of it, texts, and back. */
public final class PromiseEdgesTest extends Edges {
    private static void promises1To5() {
        part(1);
        edge("`PreCommitHall()`: 3 SITES.", () -> {
            int[] counts = {3, 0, 0, 2, 2, 3, 0, 0, -1};
            for (int what = 0; what < counts.length; what++) {
                due(h.count(what), counts[what]);
            }
            due(states(), 0);
            due(standing(), 111);
            due(digits(2), 0);
            due(digits(3), 111);
            due(digits(4), 111);
            same(known(), "7 7 7");
            due(h.lines(), 0);
        });
        part(2);
        edge("n SITES (2 to 5) by a FORM, all as at first", () -> {
            runText("vote 1 no;ask;crash 1;wake 1;");
            h.part(123);
            due(h.begin(3, 1), 3);
            due(states(), 0);
            due(standing(), 111);
            due(digits(2), 0);
            due(digits(3), 111);
            same(known(), "7 7 7");
            due(h.count(1), 1);
            due(h.count(2), 0);
            h.weight(1, 3);
            h.quorum(5, 5);
            h.crash(0);
            due(h.begin(3, 0), 3);
            due(digits(4), 111);
            due(h.count(2), 0);
            due(h.count(3), 2);
            due(h.count(4), 2);
            due(h.count(5), 3);
        });
        edge("THE LOG is empty; QUORUMS: as many as are more than half of n, each", () -> {
            h.ask(NONE);
            due(h.lines(), 3);
            due(h.begin(2, 0), 2);
            due(h.lines(), 0);
            int[] more = {2, 2, 3, 3};
            for (int n = 2; n <= 5; n++) {
                due(h.begin(n, n % 2), n);
                due(h.count(3), more[n - 2]);
                due(h.count(4), more[n - 2]);
            }
        });
        edge(": n. -3.", () -> {
            due(h.begin(2, 0), 2);
            due(h.begin(5, 1), 5);
            refused(() -> h.begin(1, 0), -3);
            refused(() -> h.begin(6, 0), -3);
            refused(() -> h.begin(2, -1), -3);
            refused(() -> h.begin(2, 2), -3);
            refused(() -> h.begin(2, Integer.MIN_VALUE), -3);
        });
        part(3);
        edge("VOTE of a SITE that is NEW: what it was.", () -> {
            due(h.vote(2, 0), 1);
            due(h.vote(2, 0), 0);
            due(h.vote(2, 1), 0);
            due(h.vote(2, 1), 1);
            h.crash(2);
            due(h.vote(2, 0), 1);
            due(digits(3), 110);
        });
        edge("-2; -3; -5: it isn't NEW.", () -> {
            refused(() -> h.vote(-1, 0), -2);
            refused(() -> h.vote(3, 0), -2);
            refused(() -> h.vote(3, 2), -2);
            refused(() -> h.vote(0, -1), -3);
            refused(() -> h.vote(0, 2), -3);
            h.crash(2);
            h.ask(NONE);
            due(states(), 550);
            refused(() -> h.vote(0, 2), -3);
            refused(() -> h.vote(0, 1), -5);
            refused(() -> h.vote(1, 0), -5);
            due(h.vote(2, 0), 1);
            h.begin(3, 0);
            h.ask(NONE);
            refused(() -> h.vote(2, 0), -5);
        });
        part(4);
        edge("WEIGHT of a SITE (QUORUMS are as many as are more than half of all WEIGHTS then, each): what it was.", () -> {
            h.quorum(3, 1);
            int[] weights = {1, 2, 3, 1};
            int[] more = {2, 3, 3, 2};
            int was = 1;
            for (int i = 0; i < weights.length; i++) {
                due(h.weight(2, weights[i]), was);
                due(h.count(3), more[i]);
                due(h.count(4), more[i]);
                due(h.count(5), 2 + weights[i]);
                was = weights[i];
            }
            h.begin(5, 0);
            for (int s = 0; s < 5; s++) {
                due(h.weight(s, 3), 1);
            }
            due(h.count(3), 8);
            due(h.count(5), 15);
        });
        edge("-2; -3; -5: some SITE isn't NEW.", () -> {
            refused(() -> h.weight(-1, 1), -2);
            refused(() -> h.weight(3, 1), -2);
            refused(() -> h.weight(3, 4), -2);
            refused(() -> h.weight(0, 0), -3);
            refused(() -> h.weight(0, 4), -3);
            h.crash(1);
            due(h.weight(1, 2), 1);
            // Of another one, DOWN or not.
            h.part(1);
            h.finish(2, 0);
            due(states(), 5);
            refused(() -> h.weight(0, 4), -3);
            refused(() -> h.weight(0, 2), -5);
            refused(() -> h.weight(2, 2), -5);
        });
        part(5);
        edge("QUORUMS: all WEIGHTS together.", () -> {
            due(h.quorum(1, 3), 3);
            due(h.count(3), 1);
            due(h.count(4), 3);
            h.weight(0, 3);
            due(h.quorum(15, 15), 5);
            due(h.count(3), 15);
            due(h.count(4), 15);
        });
        edge("-3: yes, no (1 to 15), or both together aren't more than all WEIGHTS", () -> {
            refused(() -> h.quorum(1, 2), -3);
            refused(() -> h.quorum(2, 1), -3);
            due(h.quorum(2, 2), 3);
            refused(() -> h.quorum(0, 5), -3);
            refused(() -> h.quorum(5, 0), -3);
            refused(() -> h.quorum(16, 5), -3);
            refused(() -> h.quorum(5, 16), -3);
            refused(() -> h.quorum(-1, 15), -3);
            refused(() -> h.quorum(Integer.MAX_VALUE, Integer.MAX_VALUE), -3);
            refused(() -> h.quorum(Integer.MIN_VALUE, Integer.MIN_VALUE), -3);
            due(h.quorum(1, 15), 3);
            due(h.quorum(15, 1), 3);
            h.begin(5, 0);
            for (int s = 0; s < 5; s++) {
                h.weight(s, 3);
            }
            refused(() -> h.quorum(7, 8), -3);
            due(h.quorum(8, 8), 15);
            due(h.quorum(1, 15), 15);
        });
        edge("-5: some SITE isn't NEW.", () -> {
            h.crash(1);
            due(h.quorum(2, 2), 3);
            h.part(1);
            h.finish(2, 0);
            refused(() -> h.quorum(1, 2), -3);
            refused(() -> h.quorum(2, 2), -5);
        });
    }

    private static void promises6To8() {
        part(6);
        edge("ASK: PHASE then.", () -> {
            due(h.ask(NONE), 1);
            h.begin(3, 0);
            due(h.ask(2), 3);
            h.begin(3, 0);
            h.vote(2, 0);
            due(h.ask(NONE), 3);
        });
        edge("-3: k (NONE to 20); -5.", () -> {
            limits(k -> h.ask(k), 1);
            refused(() -> h.ask(21), -3);
            refused(() -> h.ask(20), -5);
            refused(() -> h.ask(NONE), -5);
        });
        part(7);
        edge("PREPARE: PHASE then.", () -> {
            h.ask(NONE);
            h.image(0);
            due(h.prepare(NONE), 2);
            h.restore(0);
            due(h.prepare(1), 3);
            h.begin(3, 1);
            h.ask(NONE);
            h.part(11);
            due(h.prepare(NONE), 3);
        });
        edge("-3; -5.", () -> {
            refused(() -> h.prepare(NONE), -5);
            refused(() -> h.prepare(21), -3);
            h.ask(NONE);
            limits(k -> h.prepare(k), 2);
            refused(() -> h.prepare(21), -3);
            refused(() -> h.prepare(NONE), -5);
        });
        part(8);
        edge("COMMIT: how many SITES are DONE.", () -> {
            runText("ask;prepare;");
            h.image(0);
            for (int k = 0; k <= 2; k++) {
                h.restore(0);
                due(h.commit(k), k + 1);
            }
            h.restore(0);
            due(h.commit(NONE), 3);
            h.restore(0);
            h.part(11);
            due(h.commit(NONE), 1);
            // One that is DONE already, and elsewhere, counts too.
            h.restore(0);
            h.part(11);
            h.finish(1, NONE);
            due(h.commit(NONE), 3);
        });
        edge("-3; -5.", () -> {
            refused(() -> h.commit(NONE), -5);
            refused(() -> h.commit(21), -3);
            runText("ask;prepare;");
            limits(k -> h.commit(k), 3);
            refused(() -> h.commit(21), -3);
            refused(() -> h.commit(NONE), -5);
        });
    }

    /** Of all limits NONE to 20 can be. */
    private static void limits(java.util.function.IntUnaryOperator call, int due) {
        refused(() -> call.applyAsInt(-2), -3);
        refused(() -> call.applyAsInt(21), -3);
        refused(() -> call.applyAsInt(Integer.MIN_VALUE), -3);
        refused(() -> call.applyAsInt(Integer.MAX_VALUE), -3);
        h.image(1);
        due(call.applyAsInt(NONE), due);
        h.restore(1);
        due(call.applyAsInt(0) >= 0 ? 1 : 0, 1);
        h.restore(1);
        due(call.applyAsInt(20), due);
    }

    private static void promises9To11() {
        part(9);
        edge("A SITE that is UP or AWAKE is DOWN: how many are UP.", () -> {
            due(h.crash(1), 2);
            due(h.site(1, 1), 0);
            h.wake(1);
            due(h.crash(1), 2);
            due(h.site(1, 1), 0);
            h.wake(1);
            due(h.crash(0), 1);
            due(h.crash(2), 0);
            due(h.crash(1), 0);
            due(standing(), 0);
        });
        edge("-2; -5.", () -> {
            refused(() -> h.crash(-1), -2);
            refused(() -> h.crash(3), -2);
            refused(() -> h.crash(Integer.MIN_VALUE), -2);
            refused(() -> h.crash(Integer.MAX_VALUE), -2);
            h.crash(1);
            refused(() -> h.crash(1), -5);
        });
        part(10);
        edge("A SITE that is DOWN is AWAKE: its STATE.", () -> {
            h.begin(5, 0);
            h.crash(4);
            due(h.wake(4), 0);
            due(h.site(4, 1), 2);
            h.begin(3, 0);
            runText("ask;crash 1;prepare;crash 2;commit;");
            due(h.wake(1), 1);
            due(h.wake(2), 2);
            h.crash(0);
            due(h.wake(0), 4);
            due(standing(), 222);
            due(states(), 412);
            h.begin(2, 1);
            h.finish(0, 0);
            due(h.wake(0), 3);
            h.begin(2, 0);
            runText("finish 0;crash 1;");
            due(h.wake(1), 5);
        });
        edge("-2; -5.", () -> {
            refused(() -> h.wake(-1), -2);
            refused(() -> h.wake(3), -2);
            refused(() -> h.wake(0), -5);
            h.crash(0);
            h.wake(0);
            refused(() -> h.wake(0), -5);
        });
        part(11);
        edge("GROUPS of all SITES (nobody KNOWS others by that)", () -> {
            h.crash(2);
            h.crash(1);
            h.wake(1);
            String was = known();
            due(h.part(120), 3);
            due(digits(2), 120);
            same(known(), was);
            due(h.part(0), 1);
            same(known(), was);
            due(standing(), 120);
        });
        edge("as digits, that of SITE 0 the highest (as many as there are SITES, each 0 to 4)", () -> {
            due(h.part(104), 3);
            due(h.site(0, 2), 1);
            due(h.site(1, 2), 0);
            due(h.site(2, 2), 4);
            due(h.part(444), 1);
            refused(() -> h.part(445), -3);
            refused(() -> h.part(454), -3);
            refused(() -> h.part(544), -3);
            refused(() -> h.part(1000), -3);
            h.begin(2, 0);
            due(h.part(44), 1);
            refused(() -> h.part(100), -3);
            h.begin(5, 0);
            due(h.part(44444), 1);
            refused(() -> h.part(100000), -3);
        });
        edge(": how many unlike ones.", () -> {
            h.begin(5, 0);
            due(h.part(0), 1);
            due(h.part(33333), 1);
            due(h.part(33433), 2);
            due(h.part(11022), 3);
            due(h.part(1223), 4);
            due(h.part(43210), 5);
        });
        edge("-3.", () -> {
            refused(() -> h.part(-1), -3);
            refused(() -> h.part(-100), -3);
            refused(() -> h.part(9), -3);
            refused(() -> h.part(Integer.MAX_VALUE), -3);
            refused(() -> h.part(Integer.MIN_VALUE), -3);
        });
    }

    private static void promises12To15() {
        part(12);
        edge("FINISH: 0 GONE, 1 DONE, 2 DONE, 3 GONE, some being PRE, HELD first (what it set out to).", () -> {
            due(h.finish(0, NONE), 0);
            h.begin(3, 0);
            runText("ask;prepare 2;");
            due(h.finish(1, NONE), 1);
            h.begin(3, 0);
            runText("ask;prepare 1;");
            h.image(0);
            due(h.finish(1, NONE), 2);
            h.restore(0);
            due(h.finish(1, 0), 2);
            due(states(), 221);
            h.begin(3, 1);
            h.image(0);
            due(h.finish(0, NONE), 3);
            h.restore(0);
            due(h.finish(0, 0), 3);
            due(states(), 300);
        });
        edge("-2; -3: k; -5: not such a SITE, all are DECIDED; -4: BLOCKED.", () -> {
            refused(() -> h.finish(-1, 0), -2);
            refused(() -> h.finish(3, 0), -2);
            refused(() -> h.finish(3, 21), -2);
            refused(() -> h.finish(1, 21), -3);
            refused(() -> h.finish(1, 0), -5);
            limits(k -> h.finish(0, k), 0);
            refused(() -> h.finish(0, 21), -3);
            refused(() -> h.finish(0, 0), -5);
            h.begin(2, 1);
            h.part(1);
            refused(() -> h.finish(0, 21), -3);
            refused(() -> h.finish(0, 0), -4);
            refused(() -> h.finish(1, NONE), -4);
            h.crash(1);
            refused(() -> h.finish(1, NONE), -5);
            h.wake(1);
            refused(() -> h.finish(1, NONE), -5);
        });
        part(13);
        edge("RECOVER: its STATE then.", () -> {
            runText("crash 1;wake 1;");
            due(h.recover(1), 5);
            h.begin(3, 1);
            runText("ask;crash 1;wake 1;");
            due(h.recover(1), 1);
            runText("prepare;crash 1;wake 1;");
            due(h.recover(1), 2);
            runText("crash 1;commit;wake 1;");
            due(h.recover(1), 4);
            h.begin(2, 1);
            runText("finish 0 0;wake 0;");
            due(h.recover(0), 3);
        });
        edge("-2; -5: it isn't AWAKE; -4: it can't yet.", () -> {
            refused(() -> h.recover(-1), -2);
            refused(() -> h.recover(3), -2);
            refused(() -> h.recover(0), -5);
            h.ask(NONE);
            h.crash(1);
            refused(() -> h.recover(1), -5);
            h.wake(1);
            refused(() -> h.recover(1), -4);
        });
        part(14);
        edge("RESCUE: as FINISH tells, 4 if all of them are DECIDED.", () -> {
            rescued("", 0);
            rescued("ask;", 0);
            rescued("ask;prepare;", 1);
            rescued("ask;prepare 1;crash 2;", 2);
            rescued("ask;prepare;commit;", 4);
            rescued("finish 0;", 4);
        });
        edge("-3: k; -5: FORM 1, a SITE is UP; -6: none is AWAKE; -4: they don't HAVE the last.", () -> {
            refused(() -> h.rescue(21), -3);
            refused(() -> h.rescue(-2), -3);
            refused(() -> h.rescue(NONE), -5);
            runText("crash 0;crash 1;crash 2;");
            refused(() -> h.rescue(21), -3);
            refused(() -> h.rescue(NONE), -6);
            h.wake(1);
            refused(() -> h.rescue(NONE), -4);
            refused(() -> h.rescue(21), -3);
            h.wake(2);
            limits(k -> h.rescue(k), 0);
            h.begin(2, 1);
            refused(() -> h.rescue(NONE), -5);
            runText("crash 0;crash 1;");
            refused(() -> h.rescue(NONE), -5);
            h.wake(1);
            refused(() -> h.rescue(NONE), -5);
        });
        part(15);
        edge("Of a SITE, what 0: STATE, 1: UP, DOWN, AWAKE, 2: GROUP, 3: VOTE, 4: WEIGHT, 5: which it KNOWS (bits). -2.", () -> {
            h.begin(4, 0);
            h.weight(2, 3);
            h.vote(2, 0);
            h.part(21);
            runText("crash 0;crash 2;wake 2;");
            int[] due = {0, 2, 2, 0, 3, 15};
            for (int what = 0; what < due.length; what++) {
                due(h.site(2, what), due[what]);
            }
            h.recover(2);
            due(h.site(2, 0), 5);
            due(h.site(2, 1), 1);
            due(h.site(2, 5), 4);
            refused(() -> h.site(2, -1), -2);
            refused(() -> h.site(2, 6), -2);
            refused(() -> h.site(-1, 0), -2);
            refused(() -> h.site(4, 0), -2);
            refused(() -> h.site(Integer.MAX_VALUE, 0), -2);
        });
    }

    /** Behind the text all go down, are awake, and are rescued. */
    private static void rescued(String text, int due) {
        h.begin(3, 0);
        runText(text);
        for (int s = 2; s >= 0; s--) {
            h.crash(s);
        }
        for (int s = 0; s < 3; s++) {
            h.wake(s);
        }
        due(h.rescue(NONE), due);
        due(standing(), 111);
    }

    private static void promises32To34() {
        part(32);
        edge("Twenty bytes come behind those on THE TAPE, the highest of each int first: how many it has.", () -> {
            // heal; four times, then crash 1;
            due(h.feed(0x6865616c, 0x3b686561, 0x6c3b6865, 0x616c3b68, 0x65616c3b), 20);
            due(h.feed(0x63726173, 0x6820313b, -1, Integer.MIN_VALUE, 0), 40);
            due(h.script(28), 5);
            due(h.those(2), 5);
            due(h.feed(-1, -1, -1, -1, -1), 20);
            due(h.script(1), -32);
        });
        edge("-3: it would have more than 200.", () -> {
            feedText("heal;");
            for (int i = 2; i <= 10; i++) {
                due(h.feed(0, 0, 0, 0, 0), 20 * i);
            }
            refused(() -> h.feed(0x63726173, 0, 0, 0, 0), -3);
            due(h.count(7), 200);
            due(h.script(5), 1);
            due(h.feed(0, 0, 0, 0, 0), 20);
        });
        part(33);
        edge("The first n bytes of THE TAPE (which is empty then) are a SCRIPT: how many DEEDS were done.", () -> {
            feedText("crash 1;crash 2;oops;");
            due(h.script(16), 2);
            due(h.count(7), 0);
            feedText("wake 1;wake 2;");
            due(h.script(7), 1);
            due(h.count(7), 0);
            due(standing(), 120);
            feedText("heal;");
            due(h.script(0), 0);
            due(h.count(7), 0);
            // All 200 bytes can be told of.
            for (int i = 1; i <= 10; i++) {
                h.feed(0, 0, 0, 0, 0);
            }
            due(h.script(200), -32);
            due(h.count(7), 0);
        });
        edge("-3: n is below 0, above what there is (THE TAPE stays)", () -> {
            refused(() -> h.script(1), -3);
            refused(() -> h.script(-1), -3);
            feedText("crash 1;");
            refused(() -> h.script(21), -3);
            refused(() -> h.script(-1), -3);
            refused(() -> h.script(Integer.MAX_VALUE), -3);
            refused(() -> h.script(Integer.MIN_VALUE), -3);
            due(h.count(7), 20);
            due(h.script(8), 1);
        });
        edge("a FAULT.", () -> {
            due(runText("oops;"), -31);
            due(runText("heal"), -32);
            due(runText("heal;heal;heal;heal;heal;heal;heal;heal;heal;heal;heal;heal;heal;"), -33);
        });
        part(34);
        edge("Of the latest script() that emptied THE TAPE (be it of no byte)", () -> {
            runText("heal;x");
            due(h.fault(0), 1);
            due(h.fault(1), 5);
            // One that left THE TAPE tells nothing.
            due(h.script(1), -3);
            due(h.fault(0), 1);
            due(h.fault(1), 5);
            due(h.script(0), 0);
            due(h.fault(0), 0);
            due(h.fault(1), -1);
            due(runText("crash 1;crash 1;"), 1);
            due(h.fault(2), -5);
            due(h.script(0), 0);
            due(h.fault(2), 0);
        });
        edge("what 0: its FAULT (0), 1: its place (NONE), 2: what the DEED that was refused told (0: none was). NONE for "
            + "others.", () -> {
                due(h.fault(0), 0);
                due(h.fault(1), -1);
                due(h.fault(2), 0);
                due(h.fault(3), -1);
                due(h.fault(-1), -1);
                runText("crash 1;crash 7;");
                due(h.fault(0), 0);
                due(h.fault(1), -1);
                due(h.fault(2), -2);
                // A text with a FAULT had no DEED.
                runText("crash 7;x");
                due(h.fault(0), 1);
                due(h.fault(1), 8);
                due(h.fault(2), 0);
                due(h.fault(3), -1);
                runText("crash 2;");
                due(h.fault(0), 0);
                due(h.fault(1), -1);
                due(h.fault(2), 0);
            });
    }

    private static void promises35To40() {
        part(35);
        edge("How many lines THE LOG has.", () -> {
            due(h.lines(), 0);
            h.ask(NONE);
            due(h.lines(), 3);
            h.finish(0, NONE);
            due(h.lines(), 6);
            h.undo(1);
            due(h.lines(), 3);
        });
        part(36);
        edge("Byte i of a line (0 the eldest), i NONE: how many.", () -> {
            h.part(1);
            h.ask(NONE);
            String[] due = {"0 new ready", "1 new ready", "0 ready gone", "1 ready gone"};
            for (int line = 0; line < due.length; line++) {
                due(h.sign(line, NONE), due[line].length());
                for (int i = 0; i < due[line].length(); i++) {
                    due(h.sign(line, i), due[line].charAt(i));
                }
                due(h.sign(line, due[line].length()), -1);
            }
        });
        edge("NONE: not so many; -2: the line; -3: i is below NONE.", () -> {
            refused(() -> h.sign(0, 0), -2);
            refused(() -> h.sign(0, -2), -2);
            h.ask(0);
            due(h.sign(0, 10), 'y');
            due(h.sign(0, 11), -1);
            due(h.sign(0, Integer.MAX_VALUE), -1);
            refused(() -> h.sign(0, -2), -3);
            refused(() -> h.sign(0, Integer.MIN_VALUE), -3);
            refused(() -> h.sign(1, 0), -2);
            refused(() -> h.sign(1, -2), -2);
            refused(() -> h.sign(2, 0), -2);
            refused(() -> h.sign(-1, 0), -2);
            refused(() -> h.sign(60, NONE), -2);
            refused(() -> h.sign(Integer.MAX_VALUE, 0), -2);
            refused(() -> h.sign(Integer.MIN_VALUE, 0), -2);
        });
        part(37);
        edge("n calls (1 to 10) are UNDONE: how many still can be.", () -> {
            for (int i = 1; i <= 12; i++) {
                h.part(i % 5);
            }
            due(h.undo(3), 7);
            due(digits(2), 4);
            due(h.undo(1), 6);
            due(digits(2), 3);
            for (int i = 1; i <= 4; i++) {
                h.part(i);
            }
            due(h.undo(10), 0);
            due(digits(2), 2);
        });
        edge("-3: n, more than can be.", () -> {
            refused(() -> h.undo(1), -3);
            h.part(1);
            h.part(2);
            refused(() -> h.undo(0), -3);
            refused(() -> h.undo(-1), -3);
            refused(() -> h.undo(3), -3);
            refused(() -> h.undo(11), -3);
            refused(() -> h.undo(Integer.MAX_VALUE), -3);
            refused(() -> h.undo(Integer.MIN_VALUE), -3);
            due(h.undo(2), 0);
            for (int i = 0; i < 12; i++) {
                h.part(3);
            }
            refused(() -> h.undo(11), -3);
            due(h.undo(10), 0);
            due(digits(2), 3);
        });
        part(38);
        edge("An IMAGE is made: 0. -2.", () -> {
            h.part(1);
            due(h.image(0), 0);
            h.part(2);
            due(h.image(1), 0);
            due(h.count(6), 2);
            refused(() -> h.image(2), -2);
            refused(() -> h.image(-1), -2);
            refused(() -> h.image(Integer.MAX_VALUE), -2);
            refused(() -> h.image(Integer.MIN_VALUE), -2);
            h.part(3);
            h.restore(0);
            due(digits(2), 1);
            h.restore(1);
            due(digits(2), 2);
            // Made anew it holds what is now.
            h.part(4);
            due(h.image(0), 0);
            h.part(0);
            h.restore(0);
            due(digits(2), 4);
        });
        part(39);
        edge("All that is in an IMAGE is as it was: 0.", () -> {
            h.begin(4, 1);
            h.weight(1, 2);
            h.quorum(4, 5);
            h.vote(3, 0);
            h.ask(3);
            h.wake(0);
            h.part(1234);
            h.image(1);
            h.restore(1);
            String was = hallOnly();
            h.begin(2, 0);
            runText("vote 1 no;ask;crash 1;");
            due(h.restore(1), 0);
            same(hallOnly(), was);
            due(h.would(1), -1);
            // An IMAGE is not used up, nor changed by what is done then.
            h.crash(1);
            due(h.restore(1), 0);
            same(hallOnly(), was);
        });
        edge("-2; -6: none was made.", () -> {
            refused(() -> h.restore(0), -6);
            refused(() -> h.restore(-1), -2);
            refused(() -> h.restore(2), -2);
            refused(() -> h.restore(Integer.MAX_VALUE), -2);
            refused(() -> h.restore(Integer.MIN_VALUE), -2);
            h.image(0);
            refused(() -> h.restore(1), -6);
            due(h.restore(0), 0);
        });
        part(40);
        edge("0 SITES, 1 FORM, 2 PHASE, 3 YES, 4 NO, 5 all WEIGHTS, 6 calls that can be UNDONE, 7 bytes on THE TAPE. NONE for "
            + "others.", () -> {
                h.begin(4, 1);
                h.weight(0, 3);
                h.quorum(5, 6);
                h.ask(NONE);
                h.feed(0, 0, 0, 0, 0);
                h.feed(0, 0, 0, 0, 0);
                int[] due = {4, 1, 1, 5, 6, 6, 4, 40, -1};
                for (int what = 0; what < due.length; what++) {
                    due(h.count(what), due[what]);
                }
                due(h.count(-1), -1);
                due(h.count(Integer.MAX_VALUE), -1);
                due(h.count(Integer.MIN_VALUE), -1);
            });
    }

    public static void main(String[] args) throws IOException {
        readDocument();
        promises1To5();
        promises6To8();
        promises9To11();
        promises12To15();
        allTold(1, 15);
        promises32To34();
        promises35To40();
        allTold(32, 40);
        end();
    }
}
