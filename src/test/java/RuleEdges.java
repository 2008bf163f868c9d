/** Promises 6, 8 and 9, and of promise 7 what each rule's numbers may be. */
final class RuleEdges extends Edges {
    private static final String[] USES = {"regular", "party", "club", "funeral", "school"};

    RuleEdges(Check check, Document document) {
        super(check, document);
    }

    @Override
    void all() {
        fourHundredBytes();
        lowestBytesHighestFirst();
        refusedFeeds();
        halls();
        fire();
        setup();
        licences();
        rate();
        rank();
        late();
        forfeit();
        uses();
        latestFault();
        whatAHallTells();
        refusedHalls();
    }

    private void fourHundredBytes() {
        holds(6, "TEXTS: THE TAPE has at most 400 bytes;");
        VillageHalls x = new VillageHalls();
        for (int i = 1; i <= 400; i++) {
            due("byte " + i, i, x.feed(' ', 1));
        }
        due("byte 401", FULL, x.feed(' ', 1));
        due("bytes on the tape", 400, x.count(8));
        due("all of them are read", 0, x.rules());
        due("there is room again", 8, x.feed(0x2020202020202020L, 8));
    }

    private void lowestBytesHighestFirst() {
        holds(6, "The lowest n bytes of w (1 to 8), the highest of them first, come behind the tape: how many it "
            + "has.");
        VillageHalls x = new VillageHalls();
        due("'hall'", 4, x.feed(0xFFFFFFFF68616C6CL, 4));
        due("'0'", 5, x.feed(0x7F7F7F7F7F7F7F30L, 1));
        due("'se'", 7, x.feed(-1L << 16 | 0x7365, 2));
        due("'tup1;ha'", 14, x.feed(0xFF747570313B6861L, 7));
        due("'ll1setup'", 22, x.feed(0x6C6C317365747570L, 8));
        due("'3;'", 24, x.feed(0x333BL, 2));
        due("two rules", 2, x.rules());
        due("SETUP of 0", 1, x.hall(0, 0));
        due("SETUP of 1", 3, x.hall(1, 0));
        VillageHalls y = new VillageHalls();
        y.feed(0x2020202020202020L, 8);
        due("a zero byte comes, too", 16, y.feed(0x2020202020202000L, 8));
        due("it is no token", -1000115, y.rules());
        due("bytes above 127 come as they are", 8, y.feed(0x20202020FF202020L, 8));
        due("it is no token", -1000104, y.rules());
    }

    private void refusedFeeds() {
        holds(6, "BAD: n; FULL: none comes.");
        VillageHalls x = new VillageHalls();
        for (int n : new int[] {0, 9, -1, MIN, MAX}) {
            bad("feed(.., " + n + ")", x.feed(0x3B3B, n));
        }
        due("none came", 0, x.count(8));
        for (int n = 1; n <= 8; n++) {
            VillageHalls y = new VillageHalls();
            for (int i = 0; i < 49; i++) {
                y.feed(0x2020202020202020L, 8);
            }
            if (n < 8) {
                due("up to one byte too many for " + n, 401 - n, y.feed(0x2020202020202020L, 9 - n));
            } else {
                due("one byte more", 393, y.feed(' ', 1));
            }
            due("feed of " + n, FULL, y.feed(0x3B3B3B3B3B3B3B3BL, n));
            due("none came of " + n, 401 - n, y.count(8));
            bad("BAD ahead of FULL", y.feed(0, 9));
            due("what came was blank", 0, y.rules());
        }
    }

    /** A number that a rule has, from 0 to the greatest, seen by hall(0, what). */
    private void numbers(String rule, String behind, int greatest, int what) {
        VillageHalls x = new VillageHalls();
        int before = x.hall(0, what);
        String text = "hall 0 " + rule + " ";
        due(text + (greatest + 1), -1000100 - text.length(), rules(x, text + (greatest + 1) + behind + ";"));
        due("FAULT 2", 2, x.fault());
        due(text + "9999", -1000100 - text.length(), rules(x, text + "9999" + behind + ";"));
        due("as it was", before, x.hall(0, what));
        due(text + "0", 1, rules(x, text + "0" + behind + ";"));
        due("the least", 0, x.hall(0, what));
        due(text + greatest, 1, rules(x, text + greatest + behind + ";"));
        due("the greatest", greatest, x.hall(0, what));
        for (int h = 1; h < 4; h++) {
            due("hall " + h + " stays", before, x.hall(h, what));
        }
    }

    private void halls() {
        holds(7, "HALLS 0 .. 3, each with FLOORS 0 and 1.");
        VillageHalls x = new VillageHalls();
        for (int h = 0; h < 4; h++) {
            due("hall " + h, 2, rules(x, "hall " + h + " fire 0 " + (10 + h) + " fire 1 " + (20 + h) + ";"));
        }
        for (int h = 0; h < 4; h++) {
            due("FIRE of FLOOR 0", 10 + h, x.hall(h, 4));
            due("FIRE of FLOOR 1", 20 + h, x.hall(h, 5));
        }
        due("hall 4", -1000105, rules(x, "hall 4 setup 1;"));
        due("FAULT 2", 2, x.fault());
        due("floor 2", -1000112, rules(x, "hall 0 fire 2 1;"));
        due("FAULT 2", 2, x.fault());
    }

    private void fire() {
        holds(7, "Of a FLOOR: FIRE (how many people: 0 to 500; 100 at first).");
        numbers("fire 0", "", 500, 4);
        numbers("fire 1", "", 500, 5);
        VillageHalls x = new VillageHalls();
        for (int h = 0; h < 4; h++) {
            due("at first", 100, x.hall(h, 4));
            due("at first", 100, x.hall(h, 5));
        }
    }

    private void setup() {
        holds(7, "Of a HALL: SETUP (QUARTERS between two unlike USES on one FLOOR: 0 to 8; 2),");
        numbers("setup", "", 8, 0);
        due("at first", 2, new VillageHalls().hall(0, 0));
    }

    private void licences() {
        holds(7, "LICENCES (a year: 0 to 50; 12),");
        numbers("licences", "", 50, 1);
        due("at first", 12, new VillageHalls().hall(0, 1));
    }

    private void rate() {
        holds(7, "RATE (of a QUARTER, by USES: 0 to 1000; 10),");
        for (int use = 0; use < 5; use++) {
            numbers("rate " + USES[use], "", 1000, 10 + use);
            due("at first", 10, new VillageHalls().hall(0, 10 + use));
        }
    }

    private void rank() {
        holds(7, "RANK of USES (which is ahead: 0 first; at first as their numbers),");
        VillageHalls x = new VillageHalls();
        for (int use = 0; use < 5; use++) {
            due("at first", use, x.hall(3, 20 + use));
        }
        book(x, 3, 0, 9, 0, 4, 1, 4, 0, 0);
        book(x, 3, 0, 9, 0, 4, 1, 3, 0, 0);
        due("3 is ahead of 4", 2, x.holding(9, 0));
        due("first school", 1, rules(x, "hall 3 first school;"));
        due("RANK 0", 0, x.hall(3, 24));
        due("4 is ahead of 3", 1, x.holding(9, 0));
    }

    private void late() {
        holds(7, "LATE (days: 0 to 60; 7),");
        numbers("late", " 50", 60, 2);
        due("at first", 7, new VillageHalls().hall(0, 2));
    }

    private void forfeit() {
        holds(7, "FORFEIT (by 100 of the price: 0 to 100; 50).");
        numbers("late 7", "", 100, 3);
        due("at first", 50, new VillageHalls().hall(0, 3));
    }

    private void uses() {
        holds(7, "USES: 0 regular, 1 party, 2 club, 3 funeral, 4 school.");
        for (int use = 0; use < 5; use++) {
            VillageHalls x = ruled("hall 0 rate " + USES[use] + " 3 first " + USES[use] + ";");
            for (int other = 0; other < 5; other++) {
                due("RATE of " + other, other == use ? 3 : 10, x.hall(0, 10 + other));
                due("whether RANK 0", other == use ? 1 : 0, x.hall(0, 20 + other) == 0 ? 1 : 0);
            }
        }
        due("a use that is none", -1000112, rules(new VillageHalls(), "hall 0 rate partys 1;"));
        due("a use too short", -1000112, rules(new VillageHalls(), "hall 0 rate part 1;"));
    }

    private void latestFault() {
        holds(8, "The number of the latest FAULT; 0 before one.");
        VillageHalls x = new VillageHalls();
        due("before one", 0, x.fault());
        due("no text", 0, x.rules());
        due("a good text", 1, rules(x, "hall 0 setup 1;"));
        due("before one still", 0, x.fault());
        due("a FAULT 2", -1000105, rules(x, "hall 4"));
        due("it is 2", 2, x.fault());
        due("a good text", 1, rules(x, "hall 0 setup 1;"));
        due("it is 2 still", 2, x.fault());
        due("a FAULT 3", -1000119, rules(x, "hall 0 first party party;"));
        due("it is 3", 3, x.fault());
        due("no text", 0, x.rules());
        due("it is 3 still", 3, x.fault());
        due("a FAULT 1", -1000100, rules(x, ";"));
        due("it is 1", 1, x.fault());
        bad("a refused feed", x.feed(0, 0));
        due("it is 1 still", 1, x.fault());
    }

    private void whatAHallTells() {
        holds(9, "Of a HALL: 0 SETUP, 1 LICENCES, 2 LATE, 3 FORFEIT, 4, 5 FIRE of FLOORS 0, 1, 10 to 14 RATE, 20 to "
            + "24 RANK of USES 0 to 4.");
        VillageHalls x = ruled("hall 3 setup 1 licences 2 late 3 4 fire 0 5 fire 1 6;hall 3 rate regular 30 rate "
            + "party 31 rate club 32 rate funeral 33 rate school 34 first school funeral club party;");
        int[] told = {1, 2, 3, 4, 5, 6};
        for (int what = 0; what < 6; what++) {
            due("hall(3, " + what + ")", told[what], x.hall(3, what));
        }
        for (int use = 0; use < 5; use++) {
            due("RATE " + use, 30 + use, x.hall(3, 10 + use));
            due("RANK " + use, 4 - use, x.hall(3, 20 + use));
        }
    }

    private void refusedHalls() {
        holds(9, "BAD.");
        VillageHalls x = new VillageHalls();
        for (int what : new int[] {-1, 6, 7, 8, 9, 15, 16, 17, 18, 19, 25, 26, MIN, MAX}) {
            for (int h = 0; h < 4; h++) {
                bad("hall(" + h + ", " + what + ")", x.hall(h, what));
            }
        }
        holds(9, "Numbers go from 0 on.");
        for (int h : new int[] {-1, 4, MIN, MAX}) {
            for (int what : new int[] {0, 5, 10, 24}) {
                bad("hall(" + h + ", " + what + ")", x.hall(h, what));
            }
        }
    }
}
