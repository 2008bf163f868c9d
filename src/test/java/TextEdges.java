/** Promise 7: the tokens of a text, what may stand where, and its faults. */
final class TextEdges extends Edges {
    TextEdges(Check check, Document document) {
        super(check, document);
    }

    @Override
    void all() {
        names();
        numbers();
        signs();
        bytesBetween();
        texts();
        rulesThereAre();
        usesThereAre();
        ranksOfFirst();
        doneOneByOne();
        faultsAtPlaces();
        faultsAtTheEnd();
        faultsOfNumbers();
        faultsOfUses();
        firstOfSeveralFaults();
        howManyRules();
        emptyThen();
        nothingIsDone();
    }

    private void fault(int number, int place, String text) {
        VillageHalls x = new VillageHalls();
        due("rules of '" + text + "'", -1000100 - place, rules(x, text));
        due("fault of '" + text + "'", number, x.fault());
    }

    private void good(int rules, String text) {
        VillageHalls x = new VillageHalls();
        due("rules of '" + text + "'", rules, rules(x, text));
        due("fault of '" + text + "'", 0, x.fault());
    }

    private void names() {
        holds(7, "TOKENS: NAMES (letters a to z),");
        fault(1, 0, "`hall 0 setup 1;");
        fault(1, 0, "{hall 0 setup 1;");
        fault(1, 0, "Hall 0 setup 1;");
        fault(1, 0, "halla 0 setup 1;");
        fault(1, 0, "hal 0 setup 1;");
        fault(1, 0, "halz 0 setup 1;");
        fault(1, 7, "hall 0 setups 1;");
        fault(1, 7, "hall 0 setu 1;");
        fault(1, 7, "hall 0 Setup 1;");
        fault(1, 7, "hall 0 se tup 1;");
        fault(1, 0, "a".repeat(400));
        fault(1, 0, "z".repeat(400));
    }

    private void numbers() {
        holds(7, "NUMBERS (figures, 4 at most),");
        good(1, "hall 0 setup 8;");
        good(1, "hall 0003 setup 0008;");
        good(1, "hall 0 rate club 1000;");
        fault(1, 13, "hall 0 setup 00008;");
        fault(1, 5, "hall 00000 setup 8;");
        fault(1, 18, "hall 0 rate party 10000;");
        fault(1, 13, "hall 0 setup 9999999999999999999999;");
        fault(2, 13, "hall 0 setup 9999;");
        fault(1, 13, "hall 0 setup /;");
        fault(1, 13, "hall 0 setup :;");
        fault(1, 13, "hall 0 setup -1;");
        fault(1, 13, "hall 0 setup +1;");
        fault(1, 0, "0".repeat(400));
    }

    private void signs() {
        holds(7, "SIGNS ;");
        good(2, "hall 0 setup 1;hall 0 setup 2;");
        for (String sign : new String[] {":", "<", ",", ".", "!", "{", "}", "'", "|", "\u00bb", "\u007f", "\u0000"}) {
            fault(1, 14, "hall 0 setup 1" + sign);
        }
    }

    // Every byte that there is, between a NAME and a NUMBER.
    private void bytesBetween() {
        holds(7, "bytes 32 and 10 between.");
        good(1, "hall  \n0\n\n setup\n1 \n;\n ");
        for (int b = 0; b < 256; b++) {
            String text = "hall" + (char) b + "0 setup 1;";
            if (b == 32 || b == 10 || b == '0') {
                good(1, text);
            } else if (b >= '1' && b <= '9') {
                fault(2, 4, text);
            } else if (b >= 'a' && b <= 'z') {
                fault(1, 0, text);
            } else {
                fault(1, 4, text);
            }
        }
    }

    private void texts() {
        holds(7, "text: { 'hall' NUMBER rule { rule } ';' },");
        good(0, "");
        good(0, " ");
        good(0, "\n".repeat(400));
        good(1, "hall 0 setup 1;");
        good(3, "hall 0 setup 1 setup 2 setup 3;");
        good(2, "hall 0 setup 1; hall 0 setup 2;");
        fault(1, 6, "hall 0;");
        fault(1, 0, ";");
        fault(1, 15, "hall 0 setup 1;;");
        fault(1, 15, "hall 0 setup 1;setup 2;");
        fault(1, 15, "hall 0 setup 1 hall 1 setup 2;");
        fault(1, 4, "hall;");
        fault(1, 5, "hall hall 0 setup 1;");
        fault(1, 0, "0 setup 1;");
    }

    private void rulesThereAre() {
        holds(7, "rule: 'setup' NUMBER | 'licences' NUMBER | 'rate' use NUMBER | 'first' use { use } | 'late' "
            + "NUMBER NUMBER (days, by 100) | 'fire' NUMBER NUMBER (FLOOR, people);");
        good(6, "hall 0 setup 1 licences 1 rate club 1 first club late 1 1 fire 1 1;");
        fault(1, 12, "hall 0 setup;");
        fault(1, 15, "hall 0 setup 1 1;");
        fault(1, 15, "hall 0 licences;");
        fault(1, 18, "hall 0 licences 1 1;");
        fault(1, 11, "hall 0 rate;");
        fault(1, 12, "hall 0 rate 1;");
        fault(1, 16, "hall 0 rate club;");
        fault(1, 17, "hall 0 rate club club 1;");
        fault(1, 19, "hall 0 rate club 1 1;");
        fault(1, 12, "hall 0 first;");
        fault(1, 13, "hall 0 first 0;");
        fault(1, 18, "hall 0 first club 0;");
        fault(1, 11, "hall 0 late;");
        fault(1, 13, "hall 0 late 1;");
        fault(1, 16, "hall 0 late 1 1 1;");
        fault(1, 11, "hall 0 fire;");
        fault(1, 13, "hall 0 fire 1;");
        fault(1, 16, "hall 0 fire 1 1 1;");
        fault(1, 7, "hall 0 rank 1;");
    }

    private void usesThereAre() {
        holds(7, "use: 'regular' | 'party' | 'club' | 'funeral' | 'school'.");
        for (String use : new String[] {"regular", "party", "club", "funeral", "school"}) {
            good(2, "hall 0 rate " + use + " 1 first " + use + ";");
        }
        for (String none : new String[] {"regula", "parties", "clu", "funerals", "schoo", "hall", "setup", "0", ";"}) {
            fault(1, 12, "hall 0 rate " + none + " 1;");
            fault(1, 13, "hall 0 first " + none + ";");
        }
    }

    private void dueRanks(VillageHalls x, int... ranks) {
        for (int use = 0; use < 5; use++) {
            due("RANK of USE " + use, ranks[use], x.hall(0, 20 + use));
        }
    }

    private void ranksOfFirst() {
        holds(7, "'first': RANKS 0, 1, .. of these; of the others behind them, as they stood.");
        VillageHalls x = new VillageHalls();
        rules(x, "hall 0 first regular;");
        dueRanks(x, 0, 1, 2, 3, 4);
        rules(x, "hall 0 first school;");
        dueRanks(x, 1, 2, 3, 4, 0);
        rules(x, "hall 0 first funeral party;");
        dueRanks(x, 3, 1, 4, 0, 2);
        rules(x, "hall 0 first club regular school party;");
        dueRanks(x, 1, 3, 0, 4, 2);
        rules(x, "hall 0 first school funeral club party regular;");
        dueRanks(x, 4, 3, 2, 1, 0);
        rules(x, "hall 1 first club;");
        dueRanks(x, 4, 3, 2, 1, 0);
    }

    private void doneOneByOne() {
        holds(7, "They are done, one by one, when all is read.");
        VillageHalls x = new VillageHalls();
        due("four rules", 4, rules(x, "hall 0 setup 1 first school first club;hall 0 setup 0;"));
        due("the last SETUP stands", 0, x.hall(0, 0));
        dueRanks(x, 2, 3, 0, 4, 1);
        due("a fault at the end", -1000130, rules(x, "hall 0 setup 8;hall 1 setup 8;;"));
        due("the first is not done", 0, x.hall(0, 0));
        due("nor the second", 2, x.hall(1, 0));
    }

    private void faultsAtPlaces() {
        holds(7, "FAULTS, the first TOKEN that has one (its first byte), of one TOKEN the least: 1 it cannot stand "
            + "there, or is none");
        fault(1, 0, "x");
        fault(1, 3, " \n x");
        fault(1, 399, " ".repeat(399) + "x");
        fault(1, 6, "hall  partying setup 1;");
        fault(1, 7, "hall 0 1234 setup 1;");
        fault(1, 14, "hall 0 setup 1\u00ff\u00ff;");
        fault(1, 13, "hall 0 setup 12345;");
        fault(1, 399, "hall 0 setup 1;" + " ".repeat(384) + ";");
    }

    private void faultsAtTheEnd() {
        holds(7, "(the end: how many bytes there are);");
        fault(1, 4, "hall");
        fault(1, 5, "hall ");
        fault(1, 6, "hall 0");
        fault(1, 12, "hall 0 setup");
        fault(1, 14, "hall 0 setup 1");
        fault(1, 17, "hall 0 setup 1 \n ");
        fault(1, 18, "hall 0 first party");
        fault(1, 16, "hall 0 rate club");
        fault(1, 13, "hall 0 late 1");
        fault(1, 13, "hall 0 fire 1");
        fault(1, 400, "hall 0 setup 1" + " ".repeat(386));
        fault(1, 400, " ".repeat(396) + "hall");
    }

    private void faultsOfNumbers() {
        holds(7, "2 a NUMBER that is not as told;");
        fault(2, 5, "hall 4");
        fault(2, 5, "hall 0004 setup 1;");
        fault(2, 13, "hall 0 setup 9");
        fault(2, 16, "hall 0 licences 51");
        fault(2, 17, "hall 0 rate club 1001");
        fault(2, 12, "hall 0 late 61");
        fault(2, 14, "hall 0 late 0 101");
        fault(2, 12, "hall 0 fire 2");
        fault(2, 14, "hall 0 fire 0 501");
    }

    private void faultsOfUses() {
        holds(7, "3 a use that stands in this 'first' already.");
        String[] uses = {"regular", "party", "club", "funeral", "school"};
        for (String a : uses) {
            fault(3, 14 + a.length(), "hall 0 first " + a + " " + a + ";");
            for (String b : uses) {
                if (!a.equals(b)) {
                    fault(3, 15 + a.length() + b.length(), "hall 0 first " + a + " " + b + " " + a + ";");
                    fault(3, 15 + a.length() + b.length(), "hall 0 first " + a + " " + b + " " + b + ";");
                    good(2, "hall 0 first " + a + " " + b + " first " + b + " " + a + ";");
                }
            }
            String all = "hall 0 first party school club regular funeral ";
            fault(3, all.length(), all + a + ";");
        }
        good(2, "hall 0 first party;hall 0 first party;");
        good(2, "hall 0 first party rate party 1;");
    }

    private void firstOfSeveralFaults() {
        holds(7, "FAULTS, the first TOKEN that has one (its first byte), of one TOKEN the least:");
        fault(2, 5, "hall 4 setup 9 !");
        fault(1, 7, "hall 0 ! setup 9;");
        fault(3, 19, "hall 0 first party party 9999 !");
        fault(2, 12, "hall 0 late 61 101;");
        fault(1, 13, "hall 0 setup 99999;");
        fault(1, 14, "hall 0 setup 8!;");
        fault(1, 12, "hall 0 rate 9999;");
        fault(2, 20, "hall 0 setup 1;hall 4 setup 9;");
    }

    private void howManyRules() {
        holds(7, "The tape, empty then, is read: how many rules are done.");
        String most = "hall0" + "setup1".repeat(65) + ";";
        VillageHalls x = new VillageHalls();
        due("no text", 0, x.rules());
        due("65 rules", 65, rules(x, most + "    "));
        due("SETUP", 1, x.hall(0, 0));
        due("a 'first' of five is one rule", 1, rules(x, "hall 0 first party school club regular funeral;"));
        due("one rule each of four halls", 4, rules(x, "hall 0 setup 2;hall 1 setup 3;hall 2 setup 4;hall 3 setup 5;"));
        for (int h = 0; h < 4; h++) {
            due("SETUP of " + h, 2 + h, x.hall(h, 0));
        }
    }

    private void emptyThen() {
        holds(7, "The tape, empty then, is read:");
        VillageHalls x = new VillageHalls();
        Check.feed(x, "hall 0 setup 1;");
        due("it is read", 1, x.rules());
        due("bytes behind a good text", 0, x.count(8));
        due("it is not read again", 0, x.rules());
        Check.feed(x, "hall 0 setup 9;");
        due("it has a fault", -1000113, x.rules());
        due("bytes behind a fault", 0, x.count(8));
        due("it is not read again", 0, x.rules());
        due("a shorter text behind a longer", -1000104, rules(x, "hall"));
    }

    private void nothingIsDone() {
        holds(7, "-1000100 less the place of a FAULT: nothing is done.");
        for (int h = 0; h < 4; h++) {
            nothingIsDoneOf(h);
        }
    }

    private void nothingIsDoneOf(int hall) {
        String all = "hall " + hall + " setup 8 licences 50 rate party 1000 first school club late 60 100 fire 0 500 "
            + "fire 1 0";
        VillageHalls x = new VillageHalls();
        due("without its end", -1000100 - all.length(), rules(x, all));
        int[] first = {2, 12, 7, 50, 100, 100};
        for (int what = 0; what < 6; what++) {
            due("hall(" + hall + ", " + what + ")", first[what], x.hall(hall, what));
        }
        due("RATE", 10, x.hall(hall, 11));
        for (int use = 0; use < 5; use++) {
            due("RANK", use, x.hall(hall, 20 + use));
        }
        due("a good text behind it has nothing of it", 1, rules(x, "hall " + hall + " setup 3;"));
        due("LICENCES", 12, x.hall(hall, 1));
        due("RANK", 4, x.hall(hall, 24));
        due("place 0", -1000100, rules(x, ";"));
        due("place 400", -1000500, rules(x, all + " ".repeat(400 - all.length())));
    }
}
