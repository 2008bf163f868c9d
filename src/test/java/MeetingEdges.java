/** Promises 24 and 25: meetings, and what hangs on them. */
final class MeetingEdges extends Edges {
    MeetingEdges(Check check, Document document) {
        super(check, document);
    }

    @Override
    void all() {
        tenMeetings();
        members();
        votes();
        quorums();
        whatItHangsOn();
        refusedMeetings();
        valid();
        validByWhatItHangsOn();
        carried();
        howManyHang();
        refusedMet();
    }

    private int meeting(int members, int yes, int no, int quorum) {
        return new VillageHalls().meeting(members, yes, no, quorum, NONE);
    }

    private void tenMeetings() {
        holds(24, "MEETINGS 0 .. 9 (10 at most):");
        VillageHalls x = new VillageHalls();
        for (int m = 0; m < 10; m++) {
            bad("met(" + m + ", 0) ahead", x.met(m, 0));
            due("number " + m, m, x.meeting(99, 1, 0, 0, NONE));
            due("MEETINGS", m + 1, x.count(7));
        }
        due("the 11th", FULL, x.meeting(99, 1, 0, 0, NONE));
        due("MEETINGS", 10, x.count(7));
        bad("met(10, 0)", x.met(10, 0));
    }

    private void members() {
        holds(24, "MEMBERS there are (1 to 99),");
        due("one", 0, meeting(1, 0, 0, 0));
        due("99", 0, meeting(99, 0, 0, 0));
        for (int bad : new int[] {0, -1, 100, MIN, MAX}) {
            bad(bad + " MEMBERS", meeting(bad, 0, 0, 0));
        }
    }

    private void votes() {
        holds(24, "votes for, against (together no more),");
        due("all for", 0, meeting(5, 5, 0, 0));
        due("all against", 0, meeting(5, 0, 5, 0));
        due("all, for and against", 0, meeting(5, 2, 3, 0));
        due("none", 0, meeting(5, 0, 0, 0));
        int[][] bad = {{6, 0}, {0, 6}, {3, 3}, {-1, 0}, {0, -1}, {-1, 6}, {6, -1}, {-1, -1}, {MAX, MAX}, {MAX, 1},
            {1, MAX}, {MIN, MIN}, {MIN, 0}, {0, MIN}, {MAX, MIN}, {MIN, MAX}};
        for (int[] b : bad) {
            bad(b[0] + " for, " + b[1] + " against", meeting(5, b[0], b[1], 0));
        }
    }

    private void quorums() {
        holds(24, "a QUORUM (0 to 99),");
        due("none", 0, meeting(1, 1, 0, 0));
        due("99 of one", 0, meeting(1, 1, 0, 99));
        for (int bad : new int[] {-1, 100, MIN, MAX}) {
            bad("QUORUM " + bad, meeting(99, 1, 0, bad));
        }
    }

    private void whatItHangsOn() {
        holds(24, "a meeting it HANGS on (an earlier one) or none.");
        VillageHalls x = new VillageHalls();
        bad("the first on itself", x.meeting(9, 1, 0, 0, 0));
        due("the first on none", 0, x.meeting(9, 1, 0, 0, NONE));
        bad("the second on itself", x.meeting(9, 1, 0, 0, 1));
        bad("on one that is to come", x.meeting(9, 1, 0, 0, 2));
        due("the second on the first", 1, x.meeting(9, 1, 0, 0, 0));
        for (int bad : new int[] {-1, 2, 10, NONE + 1, NONE - 1, MIN, MAX}) {
            bad("on " + bad, x.meeting(9, 1, 0, 0, bad));
        }
    }

    private void refusedMeetings() {
        holds(24, "A MEETING: its number. BAD: a number, votes above MEMBERS, what it HANGS on (NONE: none); FULL: "
            + "10.");
        VillageHalls x = new VillageHalls();
        for (int m = 0; m < 10; m++) {
            due("number " + m, m, x.meeting(3, 2, 1, 3, m == 0 ? NONE : m - 1));
        }
        due("FULL", FULL, x.meeting(3, 2, 1, 3, 9));
        bad("MEMBERS ahead of FULL", x.meeting(0, 0, 0, 0, NONE));
        bad("votes ahead of FULL", x.meeting(3, 2, 2, 3, NONE));
        bad("QUORUM ahead of FULL", x.meeting(3, 2, 1, 100, NONE));
        bad("what it HANGS on ahead of FULL", x.meeting(3, 2, 1, 3, 10));
        due("what is refused does not HANG", 0, x.met(9, 2));
    }

    private void one(int valid, int carried, int yes, int no, int quorum) {
        VillageHalls x = new VillageHalls();
        x.meeting(99, yes, no, quorum, NONE);
        String votes = yes + " for, " + no + " against, QUORUM " + quorum;
        due("VALID with " + votes, valid, x.met(0, 0));
        due("CARRIED with " + votes, carried, x.met(0, 1));
    }

    private void valid() {
        holds(25, "VALID: votes are QUORUM or more,");
        one(1, 0, 0, 0, 0);
        one(0, 0, 0, 0, 1);
        one(1, 1, 1, 0, 1);
        one(0, 0, 4, 3, 8);
        one(1, 1, 4, 3, 7);
        one(1, 1, 99, 0, 99);
        one(0, 0, 98, 0, 99);
        one(1, 0, 0, 99, 99);
    }

    private void validByWhatItHangsOn() {
        holds(25, "and what it HANGS on is VALID and CARRIED;");
        VillageHalls x = new VillageHalls();
        x.meeting(9, 5, 4, 9, NONE);
        x.meeting(9, 4, 4, 0, NONE);
        x.meeting(9, 5, 3, 9, NONE);
        x.meeting(9, 1, 0, 0, 0);
        x.meeting(9, 1, 0, 0, 1);
        x.meeting(9, 1, 0, 0, 2);
        x.meeting(9, 1, 0, 2, 3);
        x.meeting(9, 1, 0, 0, 6);
        x.meeting(9, 1, 0, 0, 3);
        int[] valid = {1, 1, 0, 1, 0, 0, 0, 0, 1};
        for (int m = 0; m < valid.length; m++) {
            due("met(" + m + ", 0)", valid[m], x.met(m, 0));
        }
    }

    private void carried() {
        holds(25, "CARRIED: VALID, more for than against.");
        one(1, 1, 3, 2, 0);
        one(1, 0, 2, 2, 0);
        one(1, 0, 2, 3, 0);
        one(0, 0, 3, 2, 6);
        one(1, 1, 50, 49, 99);
        one(1, 0, 49, 50, 99);
        VillageHalls x = new VillageHalls();
        x.meeting(9, 4, 5, 0, NONE);
        x.meeting(9, 9, 0, 0, 0);
        due("one for all, that HANGS on what is not CARRIED", 0, x.met(1, 1));
    }

    private void howManyHang() {
        holds(25, "Of a MEETING: 0 VALID, 1 CARRIED (1, 0), 2 how many HANG on it, one behind another, too.");
        VillageHalls x = new VillageHalls();
        x.meeting(9, 1, 0, 0, NONE);
        due("none yet", 0, x.met(0, 2));
        int[] on = {NONE, NONE, 0, 0, 2, 4, 1, 5, 0, 6};
        for (int m = 1; m < 10; m++) {
            x.meeting(9, m % 2, 0, 0, on[m]);
        }
        int[] want = {6, 2, 3, 0, 2, 1, 1, 0, 0, 0};
        for (int m = 0; m < 10; m++) {
            due("met(" + m + ", 2)", want[m], x.met(m, 2));
        }
        VillageHalls chain = new VillageHalls();
        for (int m = 0; m < 10; m++) {
            chain.meeting(9, 1, 0, 0, m == 0 ? NONE : m - 1);
        }
        due("nine, one behind another", 9, chain.met(0, 2));
        due("the last of them is CARRIED", 1, chain.met(9, 1));
        VillageHalls all = new VillageHalls();
        for (int m = 0; m < 10; m++) {
            all.meeting(9, 0, 1, 0, m == 0 ? NONE : 0);
        }
        due("nine on one that is not CARRIED", 9, all.met(0, 2));
    }

    private void refusedMet() {
        holds(25, "BAD.");
        VillageHalls x = new VillageHalls();
        bad("of none", x.met(0, 0));
        x.meeting(1, 0, 0, 0, NONE);
        for (int bad : new int[] {-1, 1, 10, NONE, MIN, MAX}) {
            for (int what = 0; what < 3; what++) {
                bad("met(" + bad + ", " + what + ")", x.met(bad, what));
            }
        }
        for (int bad : new int[] {-1, 3, MIN, MAX}) {
            bad("met(0, " + bad + ")", x.met(0, bad));
        }
    }
}
