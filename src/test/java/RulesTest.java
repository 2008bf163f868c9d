/** Promises 6 to 9: the tape, texts, faults, and what a hall is told to be. */
public final class RulesTest {
    private static final Check CHECK = new Check("RulesTest");

    public static void main(String[] args) {
        feeding();
        emptyTexts();
        eachRule();
        rulesAreDoneInOrder();
        ranks();
        tokens();
        faultsOfPlace();
        faultsOfNumbers();
        faultsOfUses();
        aFaultDoesNothing();
        hallsAtFirst();
        CHECK.end();
    }

    private static void feeding() {
        VillageHalls x = new VillageHalls();
        CHECK.due("feed n 0", Check.BAD, x.feed(1, 0));
        CHECK.due("feed n 9", Check.BAD, x.feed(1, 9));
        CHECK.due("feed n -1", Check.BAD, x.feed(1, -1));
        for (int i = 1; i <= 49; i++) {
            CHECK.due("feed 8", 8 * i, x.feed(0x2020202020202020L, 8));
        }
        CHECK.due("feed 1", 393, x.feed(32, 1));
        CHECK.due("feed 8 beyond 400", Check.FULL, x.feed(0, 8));
        CHECK.due("none came", 393, x.count(8));
        CHECK.due("BAD is ahead of FULL", Check.BAD, x.feed(0, 9));
        CHECK.due("feed 7 up to 400", 400, x.feed(0x20202020202020L, 7));
        CHECK.due("feed 1 at 400", Check.FULL, x.feed(32, 1));
        CHECK.due("rules of 400 blanks", 0, x.rules());
        CHECK.due("the tape is empty", 0, x.count(8));
        CHECK.due("only the lowest bytes come", 2, x.feed(0x6868686868682020L, 2));
        CHECK.due("rules of them", 0, x.rules());
    }

    private static void emptyTexts() {
        VillageHalls x = new VillageHalls();
        CHECK.due("no text", 0, x.rules());
        CHECK.due("no fault yet", 0, x.fault());
        CHECK.due("blanks", 0, Check.rules(x, " \n \n"));
        CHECK.due("a tab is no blank", -1000101, Check.rules(x, " \t"));
        CHECK.due("fault 1", 1, x.fault());
        CHECK.due("no text again", 0, x.rules());
        CHECK.due("the latest fault stays", 1, x.fault());
    }

    private static void eachRule() {
        VillageHalls x = new VillageHalls();
        CHECK.due("setup", 1, Check.rules(x, "hall 0 setup 8;"));
        CHECK.due("SETUP", 8, x.hall(0, 0));
        CHECK.due("licences", 1, Check.rules(x, "hall 1 licences 50;"));
        CHECK.due("LICENCES", 50, x.hall(1, 1));
        CHECK.due("late", 1, Check.rules(x, "hall 2 late 60 100;"));
        CHECK.due("LATE", 60, x.hall(2, 2));
        CHECK.due("FORFEIT", 100, x.hall(2, 3));
        CHECK.due("fire", 2, Check.rules(x, "hall 3 fire 0 500 fire 1 0;"));
        CHECK.due("FIRE 0", 500, x.hall(3, 4));
        CHECK.due("FIRE 1", 0, x.hall(3, 5));
        String[] uses = {"regular", "party", "club", "funeral", "school"};
        for (int u = 0; u < 5; u++) {
            CHECK.due("rate", 1, Check.rules(x, "hall 2 rate " + uses[u] + " " + (u == 4 ? 1000 : u) + ";"));
            CHECK.due("RATE", u == 4 ? 1000 : u, x.hall(2, 10 + u));
            CHECK.due("RATE of another hall", 10, x.hall(1, 10 + u));
        }
        CHECK.due("zeros", 4, Check.rules(x, "hall 0 setup 0 licences 0 late 0 0 rate party 0;"));
        CHECK.due("SETUP 0", 0, x.hall(0, 0));
        CHECK.due("LICENCES 0", 0, x.hall(0, 1));
        CHECK.due("LATE 0", 0, x.hall(0, 2));
        CHECK.due("FORFEIT 0", 0, x.hall(0, 3));
    }

    private static void rulesAreDoneInOrder() {
        VillageHalls x = new VillageHalls();
        CHECK.due("several", 5, Check.rules(x, "hall 0 setup 1 setup 3; hall 1 setup 4;\nhall 0 setup 5 licences 2;"));
        CHECK.due("the last one stands", 5, x.hall(0, 0));
        CHECK.due("LICENCES", 2, x.hall(0, 1));
        CHECK.due("hall 1", 4, x.hall(1, 0));
        CHECK.due("hall 2", 2, x.hall(2, 0));
    }

    private static void dueRanks(VillageHalls x, int... ranks) {
        for (int u = 0; u < 5; u++) {
            CHECK.due("RANK of " + u, ranks[u], x.hall(0, 20 + u));
            CHECK.due("RANK elsewhere", u, x.hall(3, 20 + u));
        }
    }

    private static void ranks() {
        VillageHalls x = new VillageHalls();
        CHECK.due("first school", 1, Check.rules(x, "hall 0 first school;"));
        dueRanks(x, 1, 2, 3, 4, 0);
        CHECK.due("first club party", 1, Check.rules(x, "hall 0 first club party;"));
        dueRanks(x, 3, 1, 0, 4, 2);
        CHECK.due("first of all five", 1, Check.rules(x, "hall 0 first party funeral regular school club;"));
        dueRanks(x, 2, 0, 4, 1, 3);
        CHECK.due("first twice", 2, Check.rules(x, "hall 0 first regular first club regular;"));
        dueRanks(x, 1, 2, 0, 3, 4);
        CHECK.due("the one that is first", 1, Check.rules(x, "hall 0 first club;"));
        dueRanks(x, 1, 2, 0, 3, 4);
    }

    private static void tokens() {
        VillageHalls x = new VillageHalls();
        CHECK.due("nothing between", 2, Check.rules(x, "hall0setup3licences4;"));
        CHECK.due("SETUP 3", 3, x.hall(0, 0));
        CHECK.due("LICENCES 4", 4, x.hall(0, 1));
        CHECK.due("much between", 1, Check.rules(x, "\n\nhall \n 0\nsetup\n\n4 ; \n"));
        CHECK.due("SETUP 4", 4, x.hall(0, 0));
        CHECK.due("four figures", 1, Check.rules(x, "hall 0000 setup 0007;"));
        CHECK.due("SETUP 7", 7, x.hall(0, 0));
        CHECK.due("five figures are none", -1000105, Check.rules(x, "hall 00000 setup 1;"));
        CHECK.due("fault 1", 1, x.fault());
        CHECK.due("five figures of a second NUMBER", -1000112, Check.rules(x, "hall 0 late 00010;"));
        CHECK.due("fault 1", 1, x.fault());
        CHECK.due("one name, not two", -1000107, Check.rules(x, "hall 0 setupfirst;"));
        CHECK.due("a great letter", -1000100, Check.rules(x, "Hall 0 setup 1;"));
        CHECK.due("a great letter within", -1000101, Check.rules(x, "\nhalL 0 setup 1;"));
        CHECK.due("a strange byte", -1000107, Check.rules(x, "hall 0 \u00e9setup 1;"));
        CHECK.due("byte 0", -1000104, Check.rules(x, "hall\0000 setup 1;"));
        CHECK.due("a comma", -1000114, Check.rules(x, "hall 0 setup 1, setup 2;"));
        CHECK.due("a minus", -1000113, Check.rules(x, "hall 0 setup -1;"));
        CHECK.due("a slash (ahead of 0)", -1000113, Check.rules(x, "hall 0 setup /;"));
        CHECK.due("a colon (behind 9)", -1000114, Check.rules(x, "hall 0 setup 1:"));
        CHECK.due("a brace (behind z)", -1000100, Check.rules(x, "{hall 0 setup 1;"));
        CHECK.due("a grave (ahead of a)", -1000100, Check.rules(x, "`hall 0 setup 1;"));
        StringBuilder longest = new StringBuilder("hall 0 setup 1");
        while (longest.length() < 399) {
            longest.append(' ');
        }
        CHECK.due("400 bytes", 1, Check.rules(x, longest.append(';').toString()));
        CHECK.due("SETUP 1", 1, x.hall(0, 0));
    }

    private static void fault(int place, int number, String text) {
        VillageHalls x = new VillageHalls();
        CHECK.due("rules of '" + text + "'", -1000100 - place, Check.rules(x, text));
        CHECK.due("fault of '" + text + "'", number, x.fault());
        CHECK.due("tape behind '" + text + "'", 0, x.count(8));
        CHECK.due("SETUP behind '" + text + "'", 2, x.hall(0, 0));
    }

    private static void faultsOfPlace() {
        fault(4, 1, "hall");
        fault(6, 1, "hall  ");
        fault(6, 1, "hall 0");
        fault(8, 1, "hall 0 \n");
        fault(6, 1, "hall 0;");
        fault(14, 1, "hall 0 setup 1");
        fault(16, 1, "hall 0 setup 1\n\n");
        fault(12, 1, "hall 0 setup");
        fault(12, 1, "hall 0 setup;");
        fault(13, 1, "hall 0 setup hall 1;");
        fault(15, 1, "hall 0 setup 1 2;");
        fault(15, 1, "hall 0 setup 1 hall 1 setup 2;");
        fault(15, 1, "hall 0 setup 1;;");
        fault(0, 1, ";");
        fault(0, 1, "0");
        fault(0, 1, "setup 1;");
        fault(5, 1, "hall party setup 1;");
        fault(7, 1, "hall 0 party;");
        fault(7, 1, "hall 0 5;");
        fault(11, 1, "hall 0 rate;");
        fault(12, 1, "hall 0 rate 5;");
        fault(12, 1, "hall 0 rate dance 5;");
        fault(17, 1, "hall 0 rate party;");
        fault(18, 1, "hall 0 rate party club 5;");
        fault(12, 1, "hall 0 first;");
        fault(13, 1, "hall 0 first setup 1;");
        fault(13, 1, "hall 0 first 1;");
        fault(19, 1, "hall 0 first party 1;");
        fault(13, 1, "hall 0 late 5;");
        fault(13, 1, "hall 0 fire 0;");
        fault(14, 1, "hall 0 fire 0 party;");
        fault(11, 1, "hall 0 late;");
        fault(16, 1, "hall 0 late 5 6 7;");
        fault(18, 1, "hall 0 setup 1;\n\n halls 1 setup 1;");
    }

    private static void faultsOfNumbers() {
        fault(5, 2, "hall 4 setup 1;");
        fault(5, 2, "hall 9999");
        fault(13, 2, "hall 0 setup 9;");
        fault(16, 2, "hall 0 licences 51;");
        fault(18, 2, "hall 0 rate party 1001;");
        fault(12, 2, "hall 0 late 61 5;");
        fault(15, 2, "hall 0 late 60 101;");
        fault(12, 2, "hall 0 fire 2 5;");
        fault(14, 2, "hall 0 fire 1 501;");
        fault(13, 2, "hall 0 setup 9 floor;");
        fault(28, 2, "hall 0 setup 1;hall 1 setup 9;");
    }

    private static void faultsOfUses() {
        fault(19, 3, "hall 0 first party party;");
        fault(24, 3, "hall 0 first party club party;");
        fault(47, 3, "hall 0 first party club regular funeral school school;");
        fault(47, 3, "hall 0 first school club regular funeral party club;");
        VillageHalls x = new VillageHalls();
        CHECK.due("one use in two firsts", 2, Check.rules(x, "hall 0 first party first party;"));
    }

    private static void aFaultDoesNothing() {
        VillageHalls x = new VillageHalls();
        String all = "hall 1 setup 5 licences 6 rate club 7 first school late 8 9 fire 0 10 fire 1 11;";
        CHECK.due("a fault at the end", -1000100 - all.length(), Check.rules(x, all + "!"));
        int[] first = {2, 12, 7, 50, 100, 100};
        for (int i = 0; i < 6; i++) {
            CHECK.due("hall(1, " + i + ")", first[i], x.hall(1, i));
        }
        CHECK.due("RATE", 10, x.hall(1, 12));
        CHECK.due("RANK", 4, x.hall(1, 24));
        CHECK.due("without it", 7, Check.rules(x, all));
        int[] then = {5, 6, 8, 9, 10, 11};
        for (int i = 0; i < 6; i++) {
            CHECK.due("hall(1, " + i + ")", then[i], x.hall(1, i));
        }
        CHECK.due("RATE", 7, x.hall(1, 12));
        CHECK.due("RANK", 0, x.hall(1, 24));
        CHECK.due("another fault", -1000113, Check.rules(x, "hall 1 setup 9;"));
        CHECK.due("keeps what was done ahead", 5, x.hall(1, 0));
        CHECK.due("a good text", 1, Check.rules(x, "hall 1 setup 0;"));
        CHECK.due("the latest fault stays", 2, x.fault());
        for (int h = 0; h < 4; h++) {
            VillageHalls y = new VillageHalls();
            Check.rules(y, "hall " + h + " setup 5 first school late 1 1 fire 0 1 rate club 1;!");
            CHECK.due("a good text behind a fault", 1, Check.rules(y, "hall " + h + " licences 3;"));
            int[] rest = {2, 3, 7, 50, 100, 100};
            for (int i = 0; i < 6; i++) {
                CHECK.due("hall(" + h + ", " + i + ") has nothing of the fault's text", rest[i], y.hall(h, i));
            }
            CHECK.due("RATE", 10, y.hall(h, 12));
            CHECK.due("RANK", 4, y.hall(h, 24));
        }
    }

    private static void hallsAtFirst() {
        VillageHalls x = new VillageHalls();
        int[] first = {2, 12, 7, 50, 100, 100};
        for (int h = 0; h < 4; h++) {
            for (int what = -1; what <= 26; what++) {
                int want = Check.BAD;
                if (what >= 0 && what <= 5) {
                    want = first[what];
                } else if (what >= 10 && what <= 14) {
                    want = 10;
                } else if (what >= 20 && what <= 24) {
                    want = what - 20;
                }
                CHECK.due("hall(" + h + ", " + what + ")", want, x.hall(h, what));
            }
        }
        CHECK.due("hall(4, 0)", Check.BAD, x.hall(4, 0));
        CHECK.due("hall(-1, 0)", Check.BAD, x.hall(-1, 0));
        CHECK.due("hall(0, MIN)", Check.BAD, x.hall(0, Integer.MIN_VALUE));
        CHECK.due("hall(0, MAX)", Check.BAD, x.hall(0, Integer.MAX_VALUE));
    }
}
