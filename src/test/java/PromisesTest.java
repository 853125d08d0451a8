/** Each promise by ordinary inputs, by the edges that the document names, and by wrong inputs. */
public final class PromisesTest extends Probe {
    private static void newObject() {
        fresh("1");
        due(h.count(0), 3);
        due(h.count(1), 0);
        due(h.count(2), 0);
        due(h.count(3), 2);
        due(h.count(4), 2);
        due(states(), 0);
        due(standing(), 111);
        for (int s = 0; s < 3; s++) {
            due(h.site(s, 2), 0);
            due(h.site(s, 3), 1);
            due(h.site(s, 4), 1);
            due(h.site(s, 5), 7);
        }
        due(h.restore(0), -6);
        due(h.restore(1), -6);
        due(h.count(6), 0);
        due(h.count(7), 0);
        due(h.lines(), 0);
    }

    private static void begin() {
        fresh("2 begin");
        due(h.begin(1, 0), -3);
        due(h.begin(6, 0), -3);
        due(h.begin(3, -1), -3);
        due(h.begin(3, 2), -3);
        due(h.count(6), 0);
        due(h.count(0), 3);
        int[] quorums = {0, 0, 2, 2, 3, 3};
        for (int n = 2; n <= 5; n++) {
            for (int form = 0; form < 2; form++) {
                due(h.begin(n, form), n);
                due(h.count(0), n);
                due(h.count(1), form);
                due(h.count(3), quorums[n]);
                due(h.count(4), quorums[n]);
                due(h.site(n - 1, 5), (1 << n) - 1);
                due(h.site(n, 5), -2);
            }
        }
        h.begin(3, 0);
        h.image(1);
        feedText("ask;");
        h.weight(1, 3);
        h.vote(2, 0);
        h.part(12);
        h.ask(-1);
        h.crash(1);
        h.wake(1);
        due(h.begin(3, 0), 3);
        due(states(), 0);
        due(standing(), 111);
        due(h.count(2), 0);
        due(h.count(3), 2);
        due(h.count(5), 3);
        due(h.site(2, 2), 0);
        due(h.site(2, 3), 1);
        due(h.site(2, 5), 7);
        due(h.lines(), 0);
        due(h.count(7), 20);
        due(h.restore(1), 0);
    }

    private static void vote() {
        fresh("3 vote");
        due(h.vote(1, 0), 1);
        due(h.vote(1, 0), 0);
        due(h.vote(1, 1), 0);
        due(h.vote(2, 0), 1);
        due(h.site(2, 3), 0);
        due(h.vote(3, 5), -2);
        due(h.vote(-1, 0), -2);
        due(h.vote(0, 2), -3);
        due(h.vote(0, -1), -3);
        h.crash(1);
        due(h.vote(1, 0), 1);
        h.ask(-1);
        due(states(), 505);
        due(h.vote(0, 2), -3);
        due(h.vote(0, 0), -5);
        due(h.vote(1, 1), 0);
    }

    private static void weight() {
        fresh("4 weight");
        h.quorum(3, 3);
        due(h.weight(1, 3), 1);
        due(h.count(5), 5);
        due(h.count(3), 3);
        due(h.count(4), 3);
        due(h.weight(1, 2), 3);
        due(h.count(5), 4);
        due(h.count(3), 3);
        due(h.weight(0, 3), 1);
        due(h.count(3), 4);
        due(h.weight(3, 9), -2);
        due(h.weight(-1, 1), -2);
        due(h.weight(0, 0), -3);
        due(h.weight(0, 4), -3);
        h.crash(2);
        due(h.weight(2, 2), 1);
        h.part(1);
        h.finish(0, 0);
        due(states(), 500);
        due(h.weight(1, 4), -3);
        due(h.weight(1, 3), -5);
        due(h.site(1, 4), 2);
    }

    private static void quorum() {
        fresh("5 quorum");
        due(h.quorum(2, 2), 3);
        due(h.quorum(1, 3), 3);
        due(h.count(3), 1);
        due(h.count(4), 3);
        due(h.quorum(15, 15), 3);
        due(h.quorum(15, 1), 3);
        due(h.quorum(0, 15), -3);
        due(h.quorum(15, 0), -3);
        due(h.quorum(16, 1), -3);
        due(h.quorum(1, 16), -3);
        due(h.quorum(1, 2), -3);
        due(h.count(3), 15);
        h.weight(0, 3);
        due(h.quorum(3, 2), -3);
        due(h.quorum(3, 3), 5);
        h.crash(0);
        h.finish(1, -1);
        due(h.quorum(1, 1), -3);
        due(h.quorum(3, 3), -5);
    }

    private static void ask() {
        fresh("6 ask");
        due(h.ask(-2), -3);
        due(h.ask(21), -3);
        due(h.ask(20), 1);
        due(states(), 111);
        due(h.ask(21), -3);
        due(h.ask(0), -5);
        h.begin(3, 0);
        due(h.ask(1), 3);
        due(states(), 110);
        due(standing(), 11);
        h.begin(3, 0);
        h.vote(0, 0);
        due(h.ask(1), 3);
        due(states(), 550);
        due(standing(), 11);
        h.begin(3, 0);
        h.vote(0, 0);
        due(h.ask(0), 3);
        due(states(), 500);
        h.begin(3, 0);
        h.vote(0, 0);
        due(h.ask(-1), 3);
        due(standing(), 111);
        due(states(), 555);
        // One that votes no: the messages of both parts are counted.
        h.begin(3, 0);
        h.vote(1, 0);
        due(h.ask(2), 3);
        due(states(), 151);
        due(standing(), 11);
        h.begin(3, 0);
        h.vote(1, 0);
        due(h.ask(3), 3);
        due(states(), 551);
        due(standing(), 11);
        h.begin(3, 0);
        h.vote(1, 0);
        due(h.ask(4), 3);
        due(states(), 555);
        due(standing(), 11);
        h.begin(3, 0);
        h.vote(1, 0);
        due(h.ask(5), 3);
        due(standing(), 111);
        // One that isn't reached stays as it is, and its message is counted.
        h.begin(3, 0);
        h.part(10);
        due(h.ask(-1), 3);
        due(states(), 505);
        due(standing(), 111);
        h.begin(3, 0);
        h.part(10);
        due(h.ask(1), 3);
        due(states(), 100);
        h.begin(3, 0);
        h.part(10);
        due(h.ask(2), 3);
        due(states(), 101);
        h.begin(4, 0);
        h.crash(1);
        due(h.ask(4), 3);
        due(states(), 5011);
        due(standing(), 11);
        h.begin(4, 0);
        h.crash(1);
        due(h.ask(5), 3);
        due(states(), 5051);
        h.begin(3, 0);
        h.crash(0);
        due(h.ask(-1), -5);
        h.wake(0);
        due(h.ask(-1), -5);
        h.recover(0);
        due(h.ask(-1), -5);
        h.begin(3, 1);
        h.finish(0, -1);
        due(h.ask(-1), -5);
        due(h.count(2), 3);
    }

    private static void prepare() {
        fresh("7 prepare");
        due(h.prepare(22), -3);
        due(h.prepare(-1), -5);
        h.ask(-1);
        due(h.prepare(-2), -3);
        h.image(0);
        due(h.prepare(-1), 2);
        due(states(), 222);
        due(h.prepare(-1), -5);
        h.restore(0);
        due(h.prepare(0), 3);
        due(states(), 211);
        due(standing(), 11);
        h.restore(0);
        due(h.prepare(2), 3);
        due(states(), 222);
        due(standing(), 11);
        h.restore(0);
        due(h.prepare(3), 2);
        h.restore(0);
        h.part(11);
        due(h.prepare(-1), 2);
        due(states(), 211);
        // By quorums it goes on only if enough are made so.
        h.begin(3, 1);
        h.ask(-1);
        h.part(11);
        due(h.prepare(-1), 3);
        due(states(), 211);
        h.begin(3, 1);
        h.ask(-1);
        h.part(10);
        due(h.prepare(-1), 2);
        due(states(), 212);
        h.begin(3, 1);
        h.weight(0, 3);
        h.quorum(3, 3);
        h.ask(-1);
        h.part(11);
        due(h.prepare(-1), 2);
        h.begin(3, 0);
        h.ask(-1);
        h.crash(0);
        due(h.prepare(-1), -5);
    }

    private static void commit() {
        fresh("8 commit");
        due(h.commit(-2), -3);
        due(h.commit(-1), -5);
        h.ask(-1);
        due(h.commit(-1), -5);
        h.prepare(-1);
        h.image(0);
        due(h.commit(21), -3);
        due(h.commit(-1), 3);
        due(h.count(2), 3);
        due(h.commit(-1), -5);
        h.restore(0);
        due(h.commit(0), 1);
        due(standing(), 11);
        h.restore(0);
        due(h.commit(1), 2);
        due(states(), 442);
        h.restore(0);
        due(h.commit(2), 3);
        due(standing(), 11);
        h.restore(0);
        due(h.commit(3), 3);
        due(standing(), 111);
        // One that was made gone in another group stays so, one still ready is done.
        h.begin(4, 0);
        h.ask(-1);
        h.part(11);
        h.prepare(-1);
        due(states(), 2211);
        h.finish(2, 0);
        due(states(), 2251);
        h.wake(2);
        h.recover(2);
        h.part(0);
        due(h.commit(-1), 3);
        due(states(), 4454);
    }

    private static void crash() {
        fresh("9 crash");
        due(h.crash(1), 2);
        due(h.site(0, 5), 5);
        due(h.site(1, 5), 7);
        due(h.site(2, 5), 5);
        due(h.crash(1), -5);
        due(h.crash(-1), -2);
        due(h.crash(3), -2);
        due(h.count(2), 0);
        due(h.wake(1), 0);
        due(h.crash(1), 2);
        due(h.crash(0), 1);
        due(h.count(2), 3);
        due(h.site(2, 5), 4);
        due(h.crash(2), 0);
        // Those of another group still know it; an awake one that goes down is forgotten too.
        h.begin(3, 0);
        h.part(100);
        due(h.crash(1), 2);
        due(h.site(0, 5), 7);
        due(h.site(2, 5), 5);
        due(h.wake(1), 0);
        h.part(0);
        due(h.site(0, 5), 7);
        due(h.crash(1), 2);
        due(h.site(0, 5), 5);
    }

    private static void wake() {
        fresh("10 wake");
        due(h.wake(3), -2);
        due(h.wake(-1), -2);
        due(h.wake(2), -5);
        h.ask(-1);
        h.crash(2);
        due(h.wake(2), 1);
        due(h.site(2, 1), 2);
        due(h.those(2), 3);
        due(h.site(0, 5), 3);
        due(h.wake(2), -5);
        h.crash(0);
        h.finish(1, -1);
        due(h.wake(0), 1);
        due(states(), 151);
    }

    private static void part() {
        fresh("11 part");
        due(h.part(12), 3);
        due(h.site(0, 2), 0);
        due(h.site(1, 2), 1);
        due(h.site(2, 2), 2);
        due(h.part(400), 2);
        due(h.site(0, 2), 4);
        due(h.part(5), -3);
        due(h.part(500), -3);
        due(h.part(1000), -3);
        due(h.part(-1), -3);
        due(h.part(Integer.MIN_VALUE), -3);
        due(h.part(Integer.MAX_VALUE), -3);
        due(h.site(0, 2), 4);
        due(h.site(1, 5), 7);
        due(h.count(6), 2);
        due(h.part(444), 1);
        h.begin(5, 0);
        due(h.part(1234), 5);
        h.crash(4);
        due(h.part(1), 2);
        due(h.site(4, 2), 1);
    }

    private static void finish() {
        fresh("12 finish");
        due(h.finish(3, 99), -2);
        due(h.finish(-1, 0), -2);
        due(h.finish(1, 21), -3);
        due(h.finish(1, -2), -3);
        due(h.finish(1, -1), -5);
        due(h.finish(0, -1), 0);
        due(states(), 555);
        due(h.count(2), 3);
        due(h.finish(0, -1), -5);
        // Plain: one that is to be committed decides, those behind are made so first.
        h.begin(3, 0);
        h.ask(-1);
        h.prepare(1);
        h.image(0);
        due(h.finish(1, 0), 2);
        due(states(), 221);
        due(standing(), 1);
        h.restore(0);
        due(h.finish(1, 1), 2);
        due(states(), 222);
        due(standing(), 1);
        h.restore(0);
        due(h.finish(1, 2), 2);
        due(states(), 244);
        due(standing(), 1);
        h.restore(0);
        due(h.finish(1, 3), 2);
        due(standing(), 11);
        h.restore(0);
        h.crash(2);
        due(h.finish(1, -1), 1);
        due(states(), 241);
        // Gone spreads, done spreads ahead of it, whatever they were.
        h.begin(4, 0);
        h.ask(-1);
        h.part(11);
        h.prepare(-1);
        h.commit(-1);
        h.finish(2, 0);
        due(states(), 4451);
        h.wake(2);
        h.recover(2);
        due(h.finish(2, 20), 0);
        due(states(), 4455);
        h.begin(4, 0);
        h.ask(-1);
        h.part(11);
        h.prepare(-1);
        h.commit(1);
        h.finish(2, 0);
        h.wake(2);
        h.recover(2);
        h.part(0);
        due(h.finish(1, -1), 1);
        due(states(), 4444);
        // By quorums.
        h.begin(5, 1);
        h.ask(-1);
        h.part(11);
        h.crash(0);
        due(h.finish(3, -1), -4);
        due(h.finish(4, -1), -5);
        h.part(1);
        due(h.finish(1, 1), 3);
        due(states(), 13311);
        due(h.finish(2, 2), -4);
        h.part(0);
        due(h.finish(2, 1), 3);
        due(states(), 13331);
        due(standing(), 11);
        due(h.finish(3, -1), -4);
        h.wake(1);
        h.recover(1);
        due(h.finish(1, -1), 3);
        due(states(), 15355);
        // All held already: there is no first part.
        h.begin(2, 1);
        h.quorum(2, 1);
        due(h.finish(0, 1), 3);
        due(states(), 33);
        due(h.finish(1, -1), 0);
        due(states(), 35);
        due(h.count(2), 3);
        // Alone there are no messages: it fails at 0 alone.
        h.begin(2, 1);
        h.quorum(2, 1);
        h.part(1);
        due(h.finish(1, 1), 3);
        due(states(), 5);
        due(standing(), 11);
        due(h.count(2), 0);
        due(h.finish(0, 0), 3);
        due(states(), 35);
        due(h.count(2), 3);
    }

    private static void recover() {
        fresh("13 recover");
        due(h.recover(3), -2);
        due(h.recover(-1), -2);
        due(h.recover(1), -5);
        h.crash(1);
        due(h.recover(1), -5);
        h.wake(1);
        due(h.recover(1), 5);
        due(states(), 50);
        due(h.site(1, 5), 7);
        due(h.site(0, 5), 7);
        // Plain: one that is ready waits for one that is decided in its group.
        h.begin(3, 0);
        h.ask(-1);
        h.crash(2);
        h.wake(2);
        due(h.recover(2), -4);
        h.prepare(-1);
        due(h.recover(2), -4);
        h.commit(-1);
        h.part(1);
        due(h.recover(2), -4);
        h.part(0);
        due(h.recover(2), 4);
        due(h.site(2, 5), 7);
        h.begin(3, 0);
        h.ask(-1);
        h.crash(2);
        h.wake(2);
        h.finish(0, -1);
        h.crash(0);
        due(h.recover(2), 5);
        due(h.site(2, 5), 6);
        due(h.site(1, 5), 6);
        due(h.site(0, 5), 3);
        // By quorums it is up as it is.
        h.begin(3, 1);
        h.ask(-1);
        h.crash(2);
        h.wake(2);
        due(h.recover(2), 1);
        due(standing(), 111);
        // Done ahead of gone.
        h.begin(4, 0);
        h.ask(-1);
        h.crash(3);
        h.part(10);
        h.prepare(-1);
        h.commit(-1);
        h.finish(2, -1);
        h.wake(3);
        h.part(0);
        due(states(), 4451);
        due(h.recover(3), 4);
        // A decided one comes up alone.
        h.crash(3);
        h.wake(3);
        h.part(1);
        due(h.recover(3), 4);
        due(h.site(3, 5), 8);
        due(h.site(0, 5), 7);
    }

    private static void rescue() {
        fresh("14 rescue");
        due(h.rescue(-2), -3);
        due(h.rescue(21), -3);
        due(h.rescue(-1), -5);
        h.ask(-1);
        h.crash(0);
        h.crash(1);
        h.crash(2);
        due(h.rescue(-1), -6);
        h.image(0);
        h.wake(0);
        due(h.rescue(-1), -4);
        h.wake(1);
        due(h.rescue(-1), -4);
        h.wake(2);
        due(h.rescue(-1), 0);
        due(states(), 555);
        due(standing(), 111);
        due(h.site(0, 5), 7);
        // The last alone has it.
        h.restore(0);
        h.wake(2);
        due(h.rescue(0), 0);
        due(states(), 115);
        due(standing(), 0);
        // Those in another group are not among them.
        h.restore(0);
        h.wake(0);
        h.wake(2);
        h.part(1);
        due(h.rescue(-1), -4);
        h.part(100);
        due(h.rescue(-1), -4);
        h.part(10);
        due(h.rescue(-1), 0);
        due(states(), 515);
        h.begin(2, 1);
        h.crash(0);
        h.crash(1);
        h.wake(0);
        h.wake(1);
        due(h.rescue(-1), -5);
        // Only the last decide: site 1 is to be committed, but site 2 was the last, and is ready.
        h.begin(3, 0);
        h.ask(-1);
        h.prepare(1);
        due(states(), 221);
        h.crash(1);
        h.crash(2);
        h.wake(1);
        h.wake(2);
        h.image(1);
        due(h.rescue(-1), 0);
        due(states(), 255);
        h.restore(1);
        due(h.rescue(0), 0);
        due(states(), 225);
        due(standing(), 10);
        due(h.site(1, 5), 2);
        // The last is to be committed: all others that are ready are made so first.
        h.begin(3, 0);
        h.ask(-1);
        h.prepare(1);
        h.crash(2);
        h.crash(1);
        h.wake(2);
        h.wake(1);
        h.image(1);
        due(h.rescue(1), 2);
        due(states(), 222);
        due(standing(), 1);
        h.restore(1);
        due(h.rescue(0), 2);
        due(states(), 221);
        h.restore(1);
        due(h.rescue(-1), 2);
        due(states(), 244);
        // All decided: nobody finishes, no limit is met.
        h.crash(1);
        h.crash(2);
        h.wake(1);
        h.wake(2);
        due(h.rescue(0), 4);
        due(standing(), 11);
    }

    private static void site() {
        fresh("15 site");
        h.vote(1, 0);
        h.weight(1, 2);
        h.part(30);
        due(h.site(1, 0), 0);
        due(h.site(1, 1), 1);
        due(h.site(1, 2), 3);
        due(h.site(1, 3), 0);
        due(h.site(1, 4), 2);
        due(h.site(1, 5), 7);
        due(h.site(1, 6), -2);
        due(h.site(1, -1), -2);
        due(h.site(-1, 0), -2);
        due(h.site(3, 0), -2);
        h.crash(1);
        due(h.site(1, 1), 0);
        h.wake(1);
        due(h.site(1, 1), 2);
    }

    private static void wouldAndMessages() {
        fresh("16 would, 17 messages");
        due(h.would(-1), -2);
        due(h.would(3), -2);
        due(h.messages(-1), -2);
        due(h.messages(3), -2);
        due(h.would(2), 0);
        due(h.messages(2), 2);
        h.ask(-1);
        h.prepare(1);
        due(h.would(0), -5);
        due(h.messages(0), -5);
        h.wake(0);
        due(h.would(0), -5);
        due(h.messages(0), -5);
        due(h.would(2), 2);
        due(h.messages(2), 2);
        h.part(1);
        due(h.would(1), 1);
        due(h.messages(1), 0);
        due(h.would(2), 0);
        due(h.messages(2), 0);
        h.finish(1, -1);
        due(h.would(1), -1);
        due(h.messages(1), -1);
        h.part(0);
        due(h.would(2), 1);
        due(h.messages(2), 1);
        h.begin(5, 1);
        h.ask(-1);
        due(h.would(4), 3);
        due(h.messages(4), 8);
        h.part(11);
        due(h.would(4), -1);
        due(h.messages(4), -1);
        due(h.would(1), 3);
        due(h.messages(1), 4);
    }

    private static void blocked() {
        fresh("18 blocked");
        due(h.blocked(), 0);
        h.begin(5, 1);
        h.ask(-1);
        h.part(11);
        due(h.blocked(), 24);
        h.crash(0);
        due(h.blocked(), 30);
        h.wake(0);
        due(h.blocked(), 30);
        h.recover(0);
        due(h.blocked(), 24);
        h.finish(0, -1);
        h.part(1122);
        due(h.blocked(), 24);
        h.part(11111);
        due(h.blocked(), 0);
    }

    private static void could() {
        fresh("19 could");
        due(h.could(0), -2);
        due(h.could(8), -2);
        due(h.could(-1), -2);
        due(h.could(7), 0);
        h.ask(-1);
        h.prepare(0);
        due(h.could(6), 0);
        due(h.could(1), 1);
        due(h.could(3), 2);
        due(h.could(7), 2);
        h.finish(1, 0);
        due(states(), 251);
        due(h.could(2), -1);
        due(h.could(3), 0);
        due(h.could(5), 2);
        h.begin(3, 1);
        h.weight(2, 3);
        h.quorum(4, 2);
        h.ask(-1);
        due(h.could(1), -1);
        due(h.could(3), 3);
        due(h.could(4), 3);
        h.prepare(1);
        due(states(), 221);
        due(h.could(3), -1);
        due(h.could(6), 2);
        due(h.could(7), 2);
        due(h.could(4), 3);
    }

    private static void split() {
        fresh("20 split");
        due(h.split(), 0);
        h.ask(-1);
        h.prepare(0);
        // Site 0, alone or with another one, against the sets of the others.
        due(states(), 211);
        due(h.split(), 5);
        h.begin(2, 0);
        h.ask(-1);
        h.prepare(0);
        due(h.split(), 1);
        h.finish(1, -1);
        due(h.split(), 1);
        h.wake(0);
        h.begin(3, 1);
        h.ask(-1);
        h.prepare(0);
        due(h.split(), 0);
        h.begin(3, 1);
        h.quorum(1, 3);
        h.ask(-1);
        h.prepare(-1);
        due(h.split(), 0);
        // Site 0 would be done, site 1 is gone.
        h.begin(2, 0);
        h.ask(-1);
        h.part(1);
        h.prepare(-1);
        h.finish(1, -1);
        due(states(), 25);
        due(h.split(), 1);
        h.begin(3, 0);
        h.ask(-1);
        h.prepare(1);
        h.part(11);
        h.finish(1, -1);
        h.wake(0);
        h.part(12);
        due(states(), 244);
        due(h.split(), 0);
        // Site 1 would be gone, the others done.
        h.begin(3, 0);
        h.ask(-1);
        h.part(10);
        h.prepare(-1);
        h.crash(0);
        h.finish(2, -1);
        due(states(), 214);
        due(h.split(), 3);
        // Sites 0 and 2 are gone, site 1 is done.
        h.begin(3, 0);
        h.ask(-1);
        h.prepare(1);
        h.part(1);
        h.finish(1, -1);
        h.finish(2, -1);
        h.wake(0);
        h.part(101);
        due(h.recover(0), 5);
        due(states(), 545);
        due(h.split(), 5);
        // All decided: as they are.
        h.begin(3, 0);
        h.ask(-1);
        h.part(1);
        h.prepare(-1);
        h.commit(-1);
        h.finish(2, -1);
        due(states(), 445);
        due(h.split(), 3);
    }

    private static void stands() {
        fresh("21 stands");
        due(h.stands(-1), -3);
        due(h.stands(3), -3);
        due(h.stands(1), 3);
        h.crash(0);
        due(h.stands(2), 1);
        due(h.stands(1), 2);
        h.begin(5, 1);
        h.ask(-1);
        due(h.stands(0), 1);
        due(h.stands(1), 5);
        due(h.stands(2), 10);
        due(h.stands(3), 0);
        due(h.stands(4), 0);
        h.weight(0, 3);
        h.begin(5, 1);
        h.weight(0, 3);
        h.quorum(5, 3);
        h.ask(-1);
        due(h.stands(3), 4);
        due(h.stands(4), 1);
        h.part(1);
        due(h.stands(0), 0);
        due(h.stands(1), 1);
        due(h.stands(5), -3);
        h.crash(0);
        h.crash(1);
        h.crash(2);
        h.crash(3);
        due(h.stands(0), 0);
        due(h.stands(1), 1);
        due(h.stands(2), 0);
    }

    private static void sets() {
        fresh("22 sets");
        due(h.sets(-1), -2);
        due(h.sets(4), -2);
        due(h.sets(0), 4);
        due(h.sets(1), 4);
        due(h.sets(2), 3);
        due(h.sets(3), 3);
        h.weight(0, 3);
        h.quorum(4, 2);
        // Of 4: {0,1} {0,2} {0,1,2}; of 2: {0} with any, {1,2}.
        due(h.sets(0), 3);
        due(h.sets(2), 2);
        due(h.sets(1), 5);
        due(h.sets(3), 2);
        h.quorum(15, 1);
        due(h.sets(0), 0);
        due(h.sets(2), 0);
        due(h.sets(1), 7);
        due(h.sets(3), 3);
    }

    private static void ends() {
        fresh("23 ends");
        due(h.ends(3, 21, 0), -2);
        due(h.ends(0, 21, 3), -2);
        due(h.ends(0, 21, -1), -2);
        due(h.ends(0, 21, 0), -3);
        due(h.ends(1, 0, 0), -5);
        h.ask(-1);
        h.prepare(1);
        due(h.ends(1, 1, 0), 0);
        due(h.ends(1, 1, 1), 4);
        due(h.ends(1, 1, 2), 1);
        due(h.ends(1, 0, 2), 0);
        due(h.ends(1, -1, 0), 6);
        due(h.ends(1, -1, 1), 6);
        due(h.ends(1, -1, 2), -1);
        due(h.ends(0, -1, 0), -5);
        due(states(), 221);
        due(standing(), 11);
        due(h.lines(), 5);
        h.part(1);
        due(h.ends(1, 0, 2), -1);
        due(h.ends(1, 0, 0), 2);
        h.finish(1, -1);
        due(h.ends(1, -1, 0), -5);
        due(h.ends(2, -1, 0), 6);
        h.begin(3, 1);
        h.ask(-1);
        h.part(1);
        due(h.ends(2, -1, 0), -4);
        due(h.ends(0, 0, 2), -1);
        due(h.ends(0, 0, 1), 6);
    }

    private static void years() {
        fresh("24 years");
        due(h.years(-1, 1, 9), -3);
        due(h.years(10000, 1, 0), -3);
        due(h.years(0, 0, 0), -3);
        due(h.years(0, 41, 0), -3);
        due(h.years(0, 1, 3), -2);
        due(h.years(0, 1, -1), -2);
        // 9999: 7; x = 10872, of 3: 0; x = 29609, of 6: 5, without.
        due(h.years(9999, 1, 2), 1);
        due(h.years(9999, 1, 0), 555);
        due(h.years(9999, 1, 1), 7);
        due(h.years(9999, 40, 2) >= 0 ? 1 : 0, 1);
        // 8: ASK; then 709 * 8 + 4177 = 9849, of 6: 3, more than it sends.
        due(h.years(8, 1, 0), 111);
        due(h.years(8, 1, 1), 7);
        due(h.years(8, 1, 2), 1);
        // 1: PREPARE can't be.
        due(h.years(1, 1, 2), 0);
        // 5: site (709 * 5 + 4177) = 7722, of 3: 0; it can't recover.
        due(h.years(5, 1, 2), 0);
        // 3: site 6304 modulo 3 = 1 is down; x = 2074, of 8: 2: COMMIT can't be.
        due(h.years(3, 1, 1), 5);
        due(h.years(3, 1, 2), 1);
        due(h.years(3, 2, 2), 1);
        // 4: site 7013 modulo 3 = 2 is UP: it can't be AWAKE.
        due(h.years(4, 1, 2), 0);
        // 6: x = 8431, of 3: 1: not the lowest.
        due(h.years(6, 1, 2), 0);
        // 7: x = 9140, of 3: 2.
        due(h.years(7, 1, 2), 0);
        // 14: 6; x = 14103, of 3: 0; x = 9541, of 6: 1.
        due(h.years(14, 1, 2), 1);
        due(h.years(14, 1, 0), 550);
        due(h.years(14, 1, 1), 6);
        // From what is now: 4 and 5 of a site that is down, awake.
        h.image(0);
        h.crash(2);
        due(h.years(4, 1, 2), 1);
        due(h.years(4, 1, 1), 3);
        h.wake(2);
        // 29: 5; x = 24738, of 3: 0. 13: 5; x = 13394, of 3: 2.
        due(h.years(29, 1, 2), 0);
        due(h.years(13, 1, 2), 1);
        due(h.years(13, 1, 0), 5);
        due(h.years(13, 1, 1), 7);
        h.restore(0);
        due(states(), 0);
        due(h.count(6), 0);
        due(h.lines(), 0);
        due(h.count(2), 0);
    }

    private static void lastAndFewest() {
        fresh("25 last, 26 fewest");
        due(h.last(0), -2);
        due(h.last(8), -2);
        due(h.last(-7), -2);
        due(h.last(3), 7);
        due(h.fewest(), 7);
        h.crash(0);
        due(h.last(1), 7);
        due(h.last(2), 6);
        due(h.last(7), 6);
        due(h.fewest(), 6);
        h.crash(1);
        due(h.last(2), 6);
        due(h.last(4), 4);
        due(h.last(3), 6);
        due(h.fewest(), 4);
        // Two that know only themselves: of as few the least number.
        h.begin(2, 0);
        h.part(1);
        h.crash(0);
        h.crash(1);
        due(h.fewest(), 3);
        h.wake(0);
        h.recover(0);
        h.crash(0);
        due(h.last(1), 1);
        due(h.last(3), 1);
        due(h.fewest(), 1);
        h.wake(1);
        h.recover(1);
        due(h.last(2), 2);
        due(h.last(3), 0);
        due(h.fewest(), 1);
    }

    private static void those() {
        fresh("27 those");
        due(h.those(-1), -2);
        due(h.those(4), -2);
        h.ask(-1);
        h.part(1);
        h.prepare(-1);
        h.commit(1);
        h.finish(2, -1);
        due(states(), 445);
        due(h.those(0), 3);
        due(h.those(1), 4);
        due(h.those(2), 6);
        due(h.those(3), 6);
        h.wake(0);
        due(h.those(2), 6);
        due(h.those(3), 6);
    }

    private static void mixes() {
        fresh("28 mixes");
        due(h.mixes(-1, 9), -3);
        due(h.mixes(2, 0), -3);
        due(h.mixes(0, -1), -2);
        due(h.mixes(0, 4), -2);
        due(h.mixes(0, 1), 0);
        due(h.mixes(0, 2), -1);
        due(h.mixes(1, 2) > 0 ? 1 : 0, 1);
        // Two sites that vote no: 00 and 55 by any who are up; 50 not by both, 05 as site 0 is down.
        h.begin(2, 0);
        h.vote(0, 0);
        h.vote(1, 0);
        due(h.mixes(0, 0), 4 + 4 + 3 + 2);
        due(h.mixes(0, 1), 0);
        // 55, both down: ASK that fails behind its message, and site 1 is down.
        due(h.mixes(0, 3), 2);
        due(h.mixes(1, 0), 16);
        h.vote(0, 1);
        h.vote(1, 1);
        int before = h.mixes(1, 0);
        // From the beginning, whatever is now.
        h.ask(-1);
        h.part(1);
        h.crash(0);
        due(h.mixes(1, 0), before);
        due(h.mixes(1, 2), 5);
        due(h.mixes(1, 1) > 0 ? 1 : 0, 1);
        h.begin(4, 0);
        due(h.mixes(2, 0), -3);
        due(h.mixes(0, 4), -2);
        due(h.mixes(0, 0), -5);
    }

    private static void steps() {
        fresh("29 steps");
        due(h.steps(0, 7, 0), 0);
        due(h.steps(0, 0, 0), 3);
        due(h.steps(111, 7, 0), 1);
        due(h.steps(110, 6, 0), 1);
        due(h.steps(110, 7, 0), -1);
        due(h.steps(221, 6, 0), 2);
        due(h.steps(444, 7, 0), 3);
        due(h.steps(333, 7, 0), -1);
        due(h.steps(6, 7, 0), -3);
        due(h.steps(600, 7, 0), -3);
        due(h.steps(1000, 7, 0), -3);
        due(h.steps(-1, 7, 0), -3);
        due(h.steps(0, 8, 0), -3);
        due(h.steps(0, -1, 0), -3);
        due(h.steps(0, 7, -1), -3);
        due(h.steps(0, 7, 2), -3);
        h.begin(5, 0);
        due(h.steps(55555, 31, 1), -5);
        due(h.steps(55556, 31, 1), -3);
        due(h.steps(0, 32, 1), -3);
        due(h.steps(0, 31, 2), -3);
    }

    private static void beside() {
        fresh("30 beside");
        due(h.beside(-1, 9), -2);
        due(h.beside(6, 0), -2);
        due(h.beside(0, 2), -3);
        due(h.beside(0, -1), -3);
        due(h.beside(3, 0), 0);
        // Without groups nobody is done beside one that is gone.
        due(h.beside(4, 0) & 32, 0);
        due(h.beside(5, 0) & 16, 0);
        due(h.beside(4, 1) & 32, 32);
        due(h.beside(5, 1) & 16, 16);
        h.begin(2, 0);
        h.vote(1, 0);
        // Site 1 is new, or gone; site 0 new, ready, gone.
        due(h.beside(1, 0), 33);
        due(h.beside(0, 0), 35);
        due(h.beside(2, 0), 0);
        h.begin(4, 0);
        due(h.beside(6, 0), -2);
        due(h.beside(0, 5), -3);
        due(h.beside(0, 0), -5);
    }

    private static void way() {
        fresh("31 way");
        due(h.way(-1, 0), -3);
        due(h.way(2, 0), -3);
        due(h.way(0, -1), -3);
        due(h.way(0, 0), -1);
        due(h.way(1, 0), 100);
        due(h.way(1, Integer.MAX_VALUE), -1);
        int length = h.mixes(1, 2);
        due(h.way(1, length - 1) > 0 ? 1 : 0, 1);
        due(h.way(1, length), -1);
        h.begin(5, 0);
        due(h.way(0, -1), -3);
        due(h.way(0, 0), -5);
        // The acts of the row lead there.
        h.begin(3, 0);
        due(length, 5);
        int[] acts = new int[5];
        for (int i = 0; i < 5; i++) {
            acts[i] = h.way(1, i);
            int kind = acts[i] / 100;
            int k = acts[i] % 10 - 1;
            int told = kind == 1 ? h.ask(k) : kind == 2 ? h.prepare(k) : kind == 3 ? h.commit(k)
                : kind == 4 ? h.crash(acts[i] % 10) : kind == 5 ? h.finish(acts[i] / 10 % 10, k)
                : h.part((acts[i] - 600 >> 1 & 1) * 10 + (acts[i] - 600 >> 2 & 1));
            due(told >= 0 ? 1 : 0, 1);
        }
        due(h.those(0) != 0 && h.those(1) != 0 ? 1 : 0, 1);
    }

    private static void feed() {
        fresh("32 feed");
        for (int i = 1; i <= 10; i++) {
            due(h.feed(0x68656165 + 7, -1, Integer.MIN_VALUE, 0, 5), 20 * i);
        }
        due(h.feed(0, 0, 0, 0, 0), -3);
        due(h.count(7), 200);
        h.script(0);
        due(h.count(7), 0);
        // heal;heal;heal;heal; by the highest byte first, behind those that are there.
        due(h.feed(0x6865616c, 0x3b686561, 0x6c3b6865, 0x616c3b68, 0x65616c3b), 20);
        due(h.feed(0x63726173, 0x6820313b, 0, 0, 0), 40);
        due(h.script(28), 5);
        due(h.those(2), 5);
    }

    private static void script() {
        fresh("33 script");
        due(h.script(1), -3);
        due(h.script(-1), -3);
        feedText("ask;prepare 1;wake 0;finish 1;recover 0;");
        due(h.script(41), -3);
        due(h.script(-1), -3);
        due(h.count(7), 40);
        due(h.script(40), 5);
        due(h.count(7), 0);
        due(states(), 444);
        due(h.count(6), 1);
        h.begin(3, 0);
        due(runText("vote 0 no;vote 0 yes;ask;prepare;commit 2;"), 5);
        due(standing(), 11);
        h.begin(3, 0);
        due(runText("ask 0;crash 1;crash 2;wake 2;rescue;"), 5);
        due(states(), 105);
        h.begin(3, 1);
        due(runText("finish 0 1;heal;finish 1 0;finish 2;"), 3);
        due(h.fault(2), -4);
        due(states(), 330);
        h.part(123);
        due(runText("heal;"), 1);
        due(h.site(2, 2), 0);
        h.begin(3, 0);
        h.part(12);
        due(runText("crash 1;crash 1;heal;"), 1);
        due(h.fault(2), -5);
        due(h.site(2, 2), 2);
        due(h.count(6), 10);
        due(runText("vote 4 no;"), 0);
        due(h.fault(2), -2);
        due(runText("wake 9;"), 0);
        due(runText("wake 1;recover 1;recover 1;"), 2);
        due(runText("finish 0 9;"), 1);
        // A text with a fault does nothing, not even what stands ahead of it.
        h.begin(3, 0);
        faultOf("crash 1;oops;", 1, 8);
        due(standing(), 111);
        // Only the first bytes are the text, and all are gone then.
        feedText("crash 1;heap;");
        due(h.script(8), 1);
        due(h.count(7), 0);
        feedText("heal;");
        due(h.script(0), 0);
        due(h.count(7), 0);
    }

    private static void fault() {
        fresh("34 fault");
        due(h.fault(0), 0);
        due(h.fault(1), -1);
        due(h.fault(2), 0);
        due(h.fault(-1), -1);
        due(h.fault(3), -1);
        runText("crash 1;x");
        due(h.fault(0), 1);
        due(h.fault(1), 8);
        due(h.script(1), -3);
        due(h.fault(0), 1);
        h.begin(3, 0);
        due(h.fault(1), 8);
        h.undo(1);
        due(h.fault(1), 8);
        runText("crash 1;recover 1;crash 2;");
        due(h.fault(0), 0);
        due(h.fault(1), -1);
        due(h.fault(2), -5);
        h.script(0);
        due(h.fault(2), 0);
    }

    private static void linesAndSign() {
        fresh("35 lines, 36 sign");
        due(h.sign(0, -5), -2);
        h.vote(1, 0);
        h.ask(-1);
        due(h.lines(), 5);
        due(line(0).equals("0 new ready") ? 1 : 0, 1);
        due(line(1).equals("1 new gone") ? 1 : 0, 1);
        due(line(2).equals("2 new ready") ? 1 : 0, 1);
        due(line(3).equals("0 ready gone") ? 1 : 0, 1);
        due(line(4).equals("2 ready gone") ? 1 : 0, 1);
        due(h.sign(0, -1), 11);
        due(h.sign(0, 11), -1);
        due(h.sign(0, Integer.MAX_VALUE), -1);
        due(h.sign(0, -2), -3);
        due(h.sign(5, -2), -2);
        due(h.sign(-1, 0), -2);
        h.begin(3, 0);
        due(h.lines(), 0);
        runText("ask;prepare 1;finish 1;wake 0;recover 0;");
        due(h.lines(), 9);
        due(line(4).equals("1 ready pre") ? 1 : 0, 1);
        due(line(5).equals("2 ready pre") ? 1 : 0, 1);
        due(line(6).equals("1 pre done") ? 1 : 0, 1);
        due(line(8).equals("0 pre done") ? 1 : 0, 1);
        h.begin(2, 1);
        h.finish(0, -1);
        due(line(1).equals("1 new held") ? 1 : 0, 1);
        due(line(2).equals("0 held gone") ? 1 : 0, 1);
        h.undo(1);
        due(h.lines(), 0);
    }

    private static void undo() {
        fresh("37 undo");
        due(h.undo(1), -3);
        h.ask(-1);
        h.prepare(-1);
        due(h.count(6), 2);
        due(h.undo(3), -3);
        due(h.undo(0), -3);
        due(h.undo(-1), -3);
        due(h.undo(11), -3);
        due(h.undo(1), 1);
        due(states(), 111);
        due(h.count(2), 1);
        due(h.lines(), 3);
        due(h.prepare(-1), 2);
        due(h.undo(2), 0);
        due(states(), 0);
        due(h.count(2), 0);
        due(h.lines(), 0);
        // Each of these calls can be undone.
        h.vote(1, 0);
        h.weight(1, 2);
        h.quorum(3, 3);
        h.part(1);
        h.crash(1);
        h.wake(1);
        h.recover(1);
        h.finish(0, 0);
        due(h.count(6), 8);
        due(h.undo(1), 7);
        due(standing(), 111);
        due(h.undo(1), 6);
        due(h.site(1, 1), 2);
        due(h.site(1, 0), 0);
        due(h.undo(1), 5);
        due(h.site(1, 1), 0);
        due(h.undo(1), 4);
        due(h.site(0, 5), 7);
        due(h.undo(1), 3);
        due(h.site(2, 2), 0);
        due(h.undo(1), 2);
        due(h.count(4), 3);
        due(h.undo(1), 1);
        due(h.site(1, 4), 1);
        due(h.count(3), 2);
        due(h.undo(1), 0);
        due(h.site(1, 3), 1);
        // Ten at most; refused calls and questions don't count.
        for (int i = 0; i < 13; i++) {
            h.part(i % 5);
            h.part(9);
            h.would(0);
        }
        due(h.count(6), 10);
        due(h.undo(10), 0);
        due(h.site(2, 2), 2);
        due(h.undo(1), -3);
        h.begin(5, 1);
        due(h.undo(1), 0);
        due(h.count(0), 3);
        due(h.count(1), 0);
        // A script as one, its text not at all.
        feedText("heal;");
        runText("");
        feedText("crash 1;crash 2;");
        due(h.script(16), 2);
        feedText("heal;");
        due(h.undo(1), 0);
        due(standing(), 111);
        due(h.count(7), 20);
        h.script(0);
        // A rescue too.
        h.begin(2, 0);
        runText("crash 0;crash 1;wake 0;wake 1;");
        due(h.rescue(-1), 0);
        due(h.undo(1), 2);
        due(standing(), 22);
        due(states(), 0);
    }

    private static int firstCall(int kind) {
        switch (kind) {
            case 0: return h.begin(2, 1);
            case 1: return h.vote(0, 0);
            case 2: return h.weight(2, 3);
            case 3: return h.quorum(3, 1);
            case 4: return h.ask(-1);
            case 5: return h.crash(0);
            case 6: return h.part(1);
            case 7: return h.finish(0, -1);
            default: return runText("vote 2 no;heal;ask;ask;");
        }
    }

    /** The first call of all is undone to what was at first. */
    private static void undoFirst() {
        for (int kind = 0; kind <= 8; kind++) {
            fresh("37 undo of the first call, " + kind);
            due(firstCall(kind) >= 0 ? 1 : 0, 1);
            due(h.count(6), 1);
            due(h.undo(1), 0);
            due(h.count(0), 3);
            due(h.count(1), 0);
            due(h.count(2), 0);
            due(h.count(3), 2);
            due(h.count(4), 2);
            due(h.count(5), 3);
            due(states(), 0);
            due(standing(), 111);
            due(h.site(0, 3), 1);
            due(h.site(2, 3), 1);
            due(h.site(2, 2), 0);
            due(h.site(1, 5), 7);
            due(h.lines(), 0);
        }
    }

    private static void imageAndRestore() {
        fresh("38 image, 39 restore");
        due(h.image(-1), -2);
        due(h.image(2), -2);
        due(h.restore(-1), -2);
        due(h.restore(2), -2);
        due(h.restore(0), -6);
        h.begin(4, 1);
        h.weight(2, 3);
        h.ask(-1);
        due(h.image(0), 0);
        due(h.count(6), 3);
        due(h.restore(1), -6);
        h.prepare(-1);
        due(h.image(1), 0);
        h.begin(2, 0);
        feedText("ask;");
        due(h.restore(0), 0);
        due(h.count(0), 4);
        due(h.count(1), 1);
        due(h.count(2), 1);
        due(h.count(5), 6);
        due(states(), 1111);
        due(h.lines(), 4);
        due(h.count(7), 20);
        due(h.count(6), 0);
        due(h.undo(1), -3);
        due(h.restore(1), 0);
        due(states(), 2222);
        h.crash(0);
        due(h.count(6), 1);
        due(h.restore(1), 0);
        due(standing(), 1111);
        due(h.count(6), 0);
        h.crash(1);
        due(h.image(1), 0);
        due(h.undo(1), 0);
        due(standing(), 1111);
        due(h.restore(1), 0);
        due(standing(), 1011);
    }

    private static void count() {
        fresh("40 count");
        h.begin(4, 1);
        h.weight(0, 2);
        h.quorum(4, 5);
        feedText("ask;");
        due(h.count(0), 4);
        due(h.count(1), 1);
        due(h.count(2), 0);
        due(h.count(3), 4);
        due(h.count(4), 5);
        due(h.count(5), 5);
        due(h.count(6), 3);
        due(h.count(7), 20);
        due(h.count(8), -1);
        due(h.count(-1), -1);
        due(PreCommitHall.NONE, -1);
    }

    public static void main(String[] args) {
        newObject();
        begin();
        vote();
        weight();
        quorum();
        ask();
        prepare();
        commit();
        crash();
        wake();
        part();
        finish();
        recover();
        rescue();
        site();
        wouldAndMessages();
        blocked();
        could();
        split();
        stands();
        sets();
        ends();
        years();
        lastAndFewest();
        those();
        mixes();
        steps();
        beside();
        way();
        feed();
        script();
        fault();
        linesAndSign();
        undo();
        undoFirst();
        imageAndRestore();
        count();
        end();
    }
}
