import java.io.IOException;

/** The sentences of all mixes: those ahead of the promises, and promises 28 to 31. */
public final class MixesEdgesTest extends Edges {
    private static void stepsDue(int digits, int up, int together, int parted) {
        due(h.steps(digits, up, 0), together);
        due(h.steps(digits, up, 1), parted);
    }

    private static void wayDue(int... acts) {
        for (int i = 0; i < acts.length; i++) {
            due(h.way(1, i), acts[i]);
        }
        due(h.way(1, acts.length), -1);
        due(h.mixes(1, 2), acts.length);
    }

    private static void beginnings() {
        edge("MIXES: of 2 or 3 SITES", () -> {
            for (int n = 2; n <= 5; n++) {
                h.begin(n, 0);
                due(h.mixes(0, 1), n <= 3 ? 0 : -5);
                due(h.steps(0, 3, 0), n == 2 ? 0 : n == 3 ? 1 : -5);
                due(h.way(0, 0), n <= 3 ? -1 : -5);
                due(h.beside(3, 0), n <= 3 ? 0 : -5);
            }
        });
        edge("all STATES and who is UP that can come about", () -> {
            h.begin(2, 0);
            stepsDue(0, 3, 0, 0);
            stepsDue(0, 2, 1, 1);
            stepsDue(0, 1, 1, 1);
            stepsDue(0, 0, 2, 2);
            // Both vote no: NEW, NEW and GONE, GONE whoever is UP; 50 but if both are; 05 if site 0 isn't.
            h.vote(0, 0);
            h.vote(1, 0);
            due(h.mixes(0, 0), 13);
            due(h.mixes(1, 0), 16);
            stepsDue(5, 1, -1, 2);
            stepsDue(11, 3, -1, -1);
        });
        edge("from the beginning (all NEW, UP, one GROUP, PHASE 0;", () -> {
            h.begin(2, 0);
            int mixes = h.mixes(1, 0);
            h.part(1);
            due(h.mixes(1, 0), mixes);
            stepsDue(50, 3, -1, 2);
            h.part(0);
            h.ask(NONE);
            stepsDue(0, 3, 0, 0);
            h.crash(1);
            stepsDue(0, 3, 0, 0);
            stepsDue(11, 3, 1, 1);
            h.finish(0, NONE);
            stepsDue(44, 3, 3, 3);
            due(h.mixes(1, 0), mixes);
        });
        edge("VOTES, WEIGHTS, FORM, QUORUMS as they are now", () -> {
            h.begin(2, 0);
            stepsDue(11, 3, 1, 1);
            stepsDue(5, 3, -1, 2);
            h.vote(1, 0);
            stepsDue(11, 3, -1, -1);
            stepsDue(15, 2, 1, 1);
            h.vote(1, 1);
            stepsDue(11, 3, 1, 1);
            // By quorums one alone, NEW, is BLOCKED: 05 can't be, but if its WEIGHT is NO.
            h.begin(2, 1);
            stepsDue(5, 3, -1, -1);
            stepsDue(33, 2, 1, 1);
            h.weight(1, 3);
            stepsDue(5, 3, -1, 2);
            h.weight(1, 1);
            stepsDue(5, 3, -1, -1);
            h.weight(0, 3);
            stepsDue(5, 3, -1, -1);
            h.weight(0, 1);
            h.quorum(2, 1);
            stepsDue(5, 3, -1, 2);
            h.quorum(3, 2);
            stepsDue(5, 3, -1, -1);
            // With YES 3 both aren't enough to commit.
            stepsDue(22, 3, 2, 2);
            stepsDue(44, 3, -1, -1);
            h.quorum(2, 2);
            stepsDue(44, 3, 3, 3);
        });
        edge("as they are now", MixesEdgesTest::asTheyAreNow);
    }

    // Sites, form, who votes no (bits), weights (digits), YES, NO (0: as they are by the weights).
    private static final int[][] TERMS_OF_HALLS = {
        {2, 0, 0, 11, 0, 0}, {2, 1, 0, 11, 0, 0}, {3, 0, 0, 111, 0, 0}, {3, 1, 0, 111, 0, 0}, {2, 1, 0, 11, 2, 1},
        {2, 1, 0, 11, 1, 2}, {2, 1, 0, 13, 0, 0}, {2, 1, 0, 31, 0, 0}, {2, 0, 1, 11, 0, 0}, {2, 0, 2, 11, 0, 0},
        {3, 1, 0, 311, 0, 0}, {3, 1, 0, 113, 0, 0}, {3, 1, 0, 111, 3, 1}, {3, 1, 0, 111, 1, 3}, {3, 0, 4, 111, 0, 0},
        // Alike but for one of them told more, another one less.
        {2, 0, 1, 21, 0, 0}, {2, 0, 2, 12, 0, 0}, {3, 1, 0, 111, 3, 3}, {3, 1, 0, 112, 2, 3}};

    private static void tell(PreCommitHall hall, int[] terms) {
        hall.begin(terms[0], terms[1]);
        int weights = terms[3];
        for (int s = terms[0] - 1; s >= 0; s--) {
            hall.vote(s, 1 - (terms[2] >> s & 1));
            hall.weight(s, weights % 10);
            weights /= 10;
        }
        if (terms[4] > 0) {
            hall.quorum(terms[4], terms[5]);
        }
    }

    private static String mixesOf(PreCommitHall hall) {
        StringBuilder text = new StringBuilder();
        for (int groups = 0; groups < 2; groups++) {
            for (int what = 0; what < 4; what++) {
                text.append(hall.mixes(groups, what)).append(' ');
            }
            for (int state = 0; state < 6; state++) {
                text.append(hall.beside(state, groups)).append(' ');
            }
        }
        return text.toString();
    }

    /** Whatever was asked ahead of that, of another hall: the same as a hall tells that was asked nothing else. */
    private static void asTheyAreNow() {
        for (int[] terms : TERMS_OF_HALLS) {
            PreCommitHall alone = new PreCommitHall();
            tell(alone, terms);
            String due = mixesOf(alone);
            for (int[] ahead : TERMS_OF_HALLS) {
                h = new PreCommitHall();
                tell(h, ahead);
                h.mixes(0, 0);
                h.mixes(1, 0);
                tell(h, terms);
                same(mixesOf(h), due);
            }
        }
    }

    private static void acts() {
        edge("by ASK, PREPARE, COMMIT, FINISH (each with each k 0 to 4, and without), a SITE going DOWN", () -> {
            int[] prepared = {211, 221, 222};
            int[] committed = {422, 442, 444};
            for (int k = 0; k <= 2; k++) {
                stepsDue(prepared[k], 6, 2, 2);
                stepsDue(committed[k], 6, 3, 3);
            }
            stepsDue(222, 7, 2, 2);
            stepsDue(444, 7, 3, 3);
            stepsDue(0, 6, 1, 1);
            stepsDue(0, 5, 1, 1);
            stepsDue(0, 3, 1, 1);
            h.vote(1, 0);
            int[] asked = {100, 150, 151, 551, 555};
            for (int k = 0; k <= 4; k++) {
                stepsDue(asked[k], 6, 1, 1);
            }
            stepsDue(555, 7, 1, 1);
            h.begin(3, 1);
            int[] finished = {300, 330, 333, 553, 555};
            for (int k = 0; k <= 4; k++) {
                stepsDue(finished[k], 6, 1, 1);
            }
            // Nobody comes up again: one that failed PRE isn't UP beside one READY.
            h.begin(2, 1);
            stepsDue(21, 2, 2, 2);
            stepsDue(21, 3, -1, 3);
        });
        edge("with GROUPS, too: SITES 1 and on told to be of GROUP 0 or 1.", () -> {
            stepsDue(550, 7, -1, 2);
            stepsDue(505, 7, -1, 2);
            stepsDue(500, 7, -1, 2);
            stepsDue(55, 7, -1, 2);
            stepsDue(50, 7, -1, 2);
            stepsDue(5, 7, -1, 2);
            // Told twice: site 1 is GONE alone, site 2 then with site 0.
            stepsDue(555, 7, 1, 1);
            h.begin(2, 0);
            stepsDue(21, 3, -1, 3);
            stepsDue(25, 3, -1, 4);
        });
        edge("UNLIKE: one DONE, another one GONE (DOWN or not).", () -> {
            h.begin(2, 0);
            for (int up = 0; up <= 3; up++) {
                stepsDue(45, up, -1, 5);
                stepsDue(54, up, -1, -1);
            }
            due(h.mixes(0, 1), 0);
            due(h.mixes(1, 1), 4);
        });
        edge("ACTS as numbers: kind times 100: 1 ASK, 2 PREPARE, 3 COMMIT, and k, and 1 (0: without); 4 DOWN, and the SITE; "
            + "5 FINISH, and 10 times the SITE, k likewise; 6 GROUPS, and bits of those of GROUP 1.", () -> {
                h.begin(2, 0);
                wayDue(100, 602, 200, 300, 510);
                // PREPARE that fails behind one message; site 1 alone is DONE, site 2 GONE.
                h.begin(3, 0);
                wayDue(100, 202, 602, 510, 520);
            });
    }

    private static void promise28() {
        part(28);
        edge("MIXES (with GROUPS: groups 1), what 0: how many, 1: how many of them are UNLIKE", () -> {
            h.begin(2, 0);
            due(h.mixes(0, 1), 0);
            due(h.mixes(1, 1), 4);
            h.vote(0, 0);
            h.vote(1, 0);
            due(h.mixes(0, 0), 13);
            due(h.mixes(1, 0), 16);
            due(h.mixes(1, 1), 0);
            // Told by steps() one by one.
            h.begin(3, 0);
            for (int groups = 0; groups < 2; groups++) {
                int found = 0;
                int unlike = 0;
                int most = 0;
                // Asked of one hall these would be more calls than it is used for.
                for (int number = 0; number < 1728; number++) {
                    if (number % 300 == 0) {
                        h = new PreCommitHall();
                    }
                    int states = number / 8 / 36 * 100 + number / 8 / 6 % 6 * 10 + number / 8 % 6;
                    int steps = h.steps(states, number % 8, groups);
                    found += steps >= 0 ? 1 : 0;
                    most = Math.max(most, steps);
                    String digits = String.valueOf(states);
                    unlike += steps >= 0 && digits.contains("4") && digits.contains("5") ? 1 : 0;
                }
                due(h.mixes(groups, 0), found);
                due(h.mixes(groups, 1), unlike);
                due(h.mixes(groups, 3), most);
            }
        });
        // 44 was counted by hand; the others are what two writings of the document agree on.
        edge("what 0: how many, 1: how many of them are UNLIKE", () -> {
            h.begin(2, 0);
            mixesDue(44, 0, 62, 4);
            h.begin(3, 0);
            mixesDue(175, 0, 432, 88);
            h.begin(2, 1);
            mixesDue(36, 0, 40, 0);
            h.begin(3, 1);
            mixesDue(180, 0, 302, 0);
        });
        edge("2: the fewest ACTS to one UNLIKE (NONE)", () -> {
            due(h.mixes(0, 2), -1);
            due(h.mixes(1, 2), 5);
            h.begin(2, 0);
            due(h.mixes(0, 2), -1);
            due(h.mixes(1, 2), 5);
            h.begin(3, 1);
            due(h.mixes(1, 2), -1);
        });
        edge("3: the most ACTS that one takes (by as few as can be)", () -> {
            h.begin(2, 0);
            // 44, both DOWN; with GROUPS 45.
            due(h.mixes(0, 3), 4);
            due(h.mixes(1, 3), 5);
            h.vote(0, 0);
            h.vote(1, 0);
            due(h.mixes(0, 3), 2);
            due(h.mixes(1, 3), 2);
        });
        edge("-3: groups; -2: what; -5: there are more than 3 SITES.", () -> {
            refused(() -> h.mixes(-1, 0), -3);
            refused(() -> h.mixes(2, 0), -3);
            refused(() -> h.mixes(2, 4), -3);
            refused(() -> h.mixes(0, -1), -2);
            refused(() -> h.mixes(0, 4), -2);
            h.begin(4, 0);
            refused(() -> h.mixes(2, 4), -3);
            refused(() -> h.mixes(0, 4), -2);
            refused(() -> h.mixes(0, 0), -5);
            h.begin(5, 1);
            refused(() -> h.mixes(1, 3), -5);
        });
    }

    private static void mixesDue(int together, int unlike, int parted, int unlikeParted) {
        due(h.mixes(0, 0), together);
        due(h.mixes(0, 1), unlike);
        due(h.mixes(1, 0), parted);
        due(h.mixes(1, 1), unlikeParted);
    }

    private static void promise29() {
        part(29);
        edge("The fewest ACTS to a MIX: STATES as digits (SITE 0 the highest, as many as there are SITES, 0 to 5 each), who is "
            + "UP (bits).", () -> {
                stepsDue(0, 7, 0, 0);
                stepsDue(100, 6, 1, 1);
                stepsDue(110, 6, 1, 1);
                stepsDue(0, 0, 3, 3);
                stepsDue(555, 0, 3, 3);
                stepsDue(1, 6, -1, -1);
                h.begin(2, 0);
                stepsDue(10, 2, 1, 1);
                stepsDue(1, 2, -1, -1);
                stepsDue(55, 1, 2, 2);
                stepsDue(5, 2, 2, 2);
            });
        edge("NONE: it can't come about; -3: digits, up (not of SITES), groups; -5.", () -> {
            due(h.steps(333, 7, 0), -1);
            due(h.steps(100, 7, 0), -1);
            due(h.steps(555, 7, 0), 1);
            refused(() -> h.steps(556, 7, 0), -3);
            refused(() -> h.steps(565, 7, 0), -3);
            refused(() -> h.steps(655, 7, 0), -3);
            for (int digit = 6; digit <= 9; digit++) {
                due(h.steps(digit, 7, 0), -3);
                due(h.steps(digit * 100, 7, 0), -3);
            }
            refused(() -> h.steps(1000, 7, 0), -3);
            refused(() -> h.steps(-1, 7, 0), -3);
            refused(() -> h.steps(-100, 7, 0), -3);
            refused(() -> h.steps(Integer.MAX_VALUE, 7, 0), -3);
            refused(() -> h.steps(Integer.MIN_VALUE, 7, 0), -3);
            refused(() -> h.steps(0, -1, 0), -3);
            refused(() -> h.steps(0, 8, 0), -3);
            refused(() -> h.steps(0, Integer.MAX_VALUE, 0), -3);
            refused(() -> h.steps(0, 7, -1), -3);
            refused(() -> h.steps(0, 7, 2), -3);
            h.begin(2, 0);
            refused(() -> h.steps(100, 3, 0), -3);
            refused(() -> h.steps(0, 4, 0), -3);
            h.begin(5, 0);
            refused(() -> h.steps(55555, 31, 1), -5);
            refused(() -> h.steps(100000, 31, 1), -3);
            refused(() -> h.steps(0, 32, 1), -3);
            refused(() -> h.steps(0, 31, 2), -3);
        });
    }

    private static void promise30() {
        part(30);
        edge("STATES that another SITE can have beside one of a STATE in some MIX, as bits.", () -> {
            h.begin(2, 0);
            // One is still NEW beside one NEW, READY, GONE.
            due(h.beside(0, 0), 35);
            due(h.beside(0, 1), 35);
            due(h.beside(4, 0), 22);
            due(h.beside(4, 1), 22 + 32);
            due(h.beside(3, 1), 0);
            h.vote(1, 0);
            // Site 0 is NEW, READY, GONE; site 1 NEW or GONE.
            due(h.beside(0, 0), 35);
            due(h.beside(1, 0), 33);
            due(h.beside(2, 0), 0);
            due(h.beside(4, 1), 0);
            due(h.beside(5, 0), 35);
            // Both sites are looked at, whichever is asked of.
            h.begin(2, 1);
            due(h.beside(3, 0) & 1, 1);
            due(h.beside(0, 0) & 8, 8);
        });
        edge("-2: the STATE; -3; -5.", () -> {
            refused(() -> h.beside(-1, 0), -2);
            refused(() -> h.beside(6, 0), -2);
            refused(() -> h.beside(6, 2), -2);
            refused(() -> h.beside(5, 2), -3);
            refused(() -> h.beside(0, -1), -3);
            h.begin(4, 0);
            refused(() -> h.beside(6, 0), -2);
            refused(() -> h.beside(0, 2), -3);
            refused(() -> h.beside(0, 0), -5);
        });
    }

    private static void promise31() {
        part(31);
        edge("The i-th of the fewest ACTS by which there is one UNLIKE (of as few the least row of numbers).", () -> {
            wayDue(100, 202, 602, 510, 520);
            h.begin(2, 0);
            wayDue(100, 602, 200, 300, 510);
            // The same whatever is now.
            h.part(1);
            h.crash(0);
            wayDue(100, 602, 200, 300, 510);
        });
        edge("NONE: there is none, not so many; -3: groups, i is below 0; -5.", () -> {
            due(h.way(0, 0), -1);
            due(h.way(1, 4), 520);
            due(h.way(1, 5), -1);
            due(h.way(1, 64), -1);
            due(h.way(1, Integer.MAX_VALUE), -1);
            refused(() -> h.way(1, -1), -3);
            refused(() -> h.way(1, Integer.MIN_VALUE), -3);
            refused(() -> h.way(-1, 0), -3);
            refused(() -> h.way(2, 0), -3);
            h.vote(2, 0);
            due(h.way(1, 0), -1);
            h.begin(3, 1);
            due(h.way(1, 0), -1);
            h.begin(4, 0);
            refused(() -> h.way(0, -1), -3);
            refused(() -> h.way(2, 0), -3);
            refused(() -> h.way(1, 0), -5);
        });
    }

    public static void main(String[] args) throws IOException {
        readDocument();
        part(TERMS);
        beginnings();
        acts();
        promise28();
        promise29();
        promise30();
        promise31();
        allTold(28, 31);
        end();
    }
}
