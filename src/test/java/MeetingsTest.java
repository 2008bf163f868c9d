/** Promises 24 and 25: meetings, whether they stand, and what hangs on them. */
public final class MeetingsTest {
    private static final Check CHECK = new Check("MeetingsTest");

    public static void main(String[] args) {
        refusals();
        numbers();
        tenAtMost();
        quorumAndVotes();
        hanging();
        CHECK.end();
    }

    private static void refusals() {
        VillageHalls x = new VillageHalls();
        int none = Check.NONE;
        int[][] bad = {{0, 0, 0, 0, none}, {100, 0, 0, 0, none}, {-1, 0, 0, 0, none}, {5, -1, 0, 0, none},
            {5, 0, -1, 0, none}, {5, 6, 0, 0, none}, {5, 0, 6, 0, none}, {5, 3, 3, 0, none}, {5, 6, -1, 0, none},
            {5, -1, 6, 0, none}, {5, 0, 0, -1, none}, {5, 0, 0, 100, none}, {5, 0, 0, 0, 0}, {5, 0, 0, 0, -1},
            {5, Integer.MAX_VALUE, Integer.MAX_VALUE, 0, none}, {5, Integer.MIN_VALUE, Integer.MIN_VALUE, 0, none},
            {5, 0, 0, 0, Check.BAD}};
        for (int[] b : bad) {
            CHECK.due("a BAD meeting", Check.BAD, x.meeting(b[0], b[1], b[2], b[3], b[4]));
        }
        CHECK.due("none yet", 0, x.count(7));
        CHECK.due("met(0, 0)", Check.BAD, x.met(0, 0));
    }

    private static void numbers() {
        VillageHalls x = new VillageHalls();
        CHECK.due("the least", 0, x.meeting(1, 0, 0, 0, Check.NONE));
        CHECK.due("the most", 1, x.meeting(99, 99, 0, 99, 0));
        CHECK.due("all against", 2, x.meeting(99, 0, 99, 99, 1));
        CHECK.due("on itself", Check.BAD, x.meeting(99, 0, 99, 99, 3));
        CHECK.due("met(0, -1)", Check.BAD, x.met(0, -1));
        CHECK.due("met(0, 3)", Check.BAD, x.met(0, 3));
        CHECK.due("met(3, 0)", Check.BAD, x.met(3, 0));
        CHECK.due("met(-1, 0)", Check.BAD, x.met(-1, 0));
        CHECK.due("met(NONE, 0)", Check.BAD, x.met(Check.NONE, 0));
    }

    private static void tenAtMost() {
        VillageHalls x = new VillageHalls();
        for (int i = 0; i < 10; i++) {
            CHECK.due("meeting", i, x.meeting(9, 5, 4, 9, i - 1 < 0 ? Check.NONE : i - 1));
        }
        CHECK.due("the 11th", Check.FULL, x.meeting(9, 5, 4, 9, 9));
        CHECK.due("BAD is ahead of FULL", Check.BAD, x.meeting(9, 5, 4, 9, 10));
        CHECK.due("ten", 10, x.count(7));
        for (int i = 0; i < 10; i++) {
            CHECK.due("met(" + i + ", 0)", 1, x.met(i, 0));
            CHECK.due("met(" + i + ", 1)", 1, x.met(i, 1));
            CHECK.due("met(" + i + ", 2)", 9 - i, x.met(i, 2));
        }
    }

    private static void one(int valid, int carried, int members, int yes, int no, int quorum) {
        VillageHalls x = new VillageHalls();
        x.meeting(members, yes, no, quorum, Check.NONE);
        CHECK.due("VALID of " + yes + " to " + no + ", quorum " + quorum, valid, x.met(0, 0));
        CHECK.due("CARRIED of " + yes + " to " + no + ", quorum " + quorum, carried, x.met(0, 1));
    }

    private static void quorumAndVotes() {
        one(1, 1, 10, 3, 2, 5);
        one(0, 0, 10, 3, 2, 6);
        one(1, 0, 10, 3, 3, 6);
        one(1, 0, 10, 2, 3, 5);
        one(1, 0, 10, 0, 0, 0);
        one(1, 1, 10, 1, 0, 0);
        one(0, 0, 10, 10, 0, 11);
    }

    private static void hanging() {
        VillageHalls x = new VillageHalls();
        x.meeting(10, 6, 4, 5, Check.NONE);
        x.meeting(10, 4, 6, 5, Check.NONE);
        x.meeting(10, 6, 0, 7, Check.NONE);
        x.meeting(10, 6, 0, 5, 0);
        x.meeting(10, 6, 0, 5, 1);
        x.meeting(10, 6, 0, 5, 2);
        x.meeting(10, 3, 3, 5, 3);
        x.meeting(10, 6, 0, 5, 6);
        x.meeting(10, 6, 0, 5, 3);
        int[] valid = {1, 1, 0, 1, 0, 0, 1, 0, 1};
        int[] carried = {1, 0, 0, 1, 0, 0, 0, 0, 1};
        int[] behind = {4, 1, 1, 3, 0, 0, 1, 0, 0};
        for (int i = 0; i < 9; i++) {
            CHECK.due("met(" + i + ", 0)", valid[i], x.met(i, 0));
            CHECK.due("met(" + i + ", 1)", carried[i], x.met(i, 1));
            CHECK.due("met(" + i + ", 2)", behind[i], x.met(i, 2));
        }
    }
}
