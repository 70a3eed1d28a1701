/** Terms 2, a test for each FORM, for FU, HAN and BASE where they begin and where they end. */
public final class WorthEdgeTest {
    private static final Check CHECK = new Check("WorthEdgeTest");
    /** The SEAT's WIND is 29, the ROUND's is 29. */
    private static final int WEST = 2 | 2 << 2;
    private static final String PLAIN = "0 1 2 9 10 11 21 22 23 6 7 8 28 28";
    /** HAN of the FORMS 0 .. 29, as the document tells them; a FORM that OPEN hands have not is -99. */
    private static final int[] HAN = {1, 2, 1, 1, 1, 1, 1, 1, 1, 1, 1, 1, 1, 1, 1, 1, 2, 2, 2, 2, 2, 2, 2, 2, 2, 2,
        3, 3, 3, 6};
    private static final int[] OPEN_HAN = {-99, -99, -99, -99, 1, 1, 1, 1, 1, -99, -99, 1, 1, 1, 1, 1, 2, 1, 1, 2, 2,
        2, 2, 1,
        2, 2, 2, 2, -99, 5};

    public static void main(String[] args) {
        betsNotOpen();
        drawnNotOpen();
        noEnds();
        flatRuns();
        flatPair();
        flatWinner();
        likeRuns();
        threesOfDragonsAndWinds();
        sevenPairs();
        runsOfAllSuits();
        oneFourSeven();
        noRuns();
        threeHidden();
        anothersTileCompletes();
        threeFours();
        threesOfOneNumber();
        endsInEach();
        terminalsInEach();
        allEnds();
        twoDragons();
        oneSuitAndHonours();
        oneSuit();
        thirteen();
        fourHidden();
        allDragons();
        threeWinds();
        fourWinds();
        allHonours();
        allTerminals();
        greens();
        nineGates();
        fourFours();
        greatOnesAlone();
        fuUpToTheNextTen();
        fuOpenAtLeastThirty();
        fuOfSets();
        fuOfPairs();
        fuOfTheWinner();
        fuDrawn();
        fuOfAnothersTile();
        fuOfOtherSorts();
        dearTilesWithAForm();
        baseOfFourAndLess();
        baseOfFiveAndMore();
        greatestBase();
        thenHanThenFu();
        thenForms();
        CHECK.end();
    }

    private static TileHouse weigh(String tiles, int kind, boolean drawn, int winds) {
        TileHouse house = Desk.of(CHECK, tiles);
        house.worth(kind, drawn, 0, winds, 0);
        return house;
    }

    /** The FORMS of a hand that another's tile completed, and their HAN. */
    private static void forms(String tiles, int kind, int... want) {
        formsAndHan(tiles + " by " + kind, weigh(tiles, kind, false, WEST), isOpen(tiles), want);
    }

    /** The FORMS of a hand that a DRAW completed, and their HAN. */
    private static void drawn(String tiles, int kind, int... want) {
        formsAndHan(tiles + " by drawing " + kind, weigh(tiles, kind, true, WEST), isOpen(tiles), want);
    }

    private static boolean isOpen(String tiles) {
        return tiles.contains("r") || tiles.contains("t") || tiles.contains("f");
    }

    private static void formsAndHan(String name, TileHouse house, boolean open, int... want) {
        int han = 0;
        for (int form : want) {
            han += form >= 32 ? 13 : open ? OPEN_HAN[form] : HAN[form];
        }
        CHECK.due("FORMS of " + name, house.deskForms(), Script.bits(want));
        CHECK.due("HAN of " + name, house.desk(1), han);
    }

    private static void fu(String tiles, int kind, boolean drawn, int winds, int want) {
        CHECK.due("FU of " + tiles + " by " + kind + (drawn ? " drawn" : "") + " with winds " + winds,
            weigh(tiles, kind, drawn, winds).desk(2), want);
    }

    /** "0 BET 1/-; 1 FIRST BET 2/- (then no 0); 2 AT ONCE 1/-". */
    private static void betsNotOpen() {
        TileHouse house = Desk.of(CHECK, PLAIN);
        int[][] hans = {{0, 0}, {1, 1}, {2, 2}, {3, 2}, {4, 1}, {5, 2}, {6, 3}, {7, 3}};
        for (int[] pair : hans) {
            house.worth(28, false, pair[0], WEST, 0);
            CHECK.due("HAN of told " + pair[0], house.desk(1), pair[1]);
            CHECK.due("FORMS of told " + pair[0], house.deskForms(),
                pair[0] == 3 || pair[0] == 7 ? pair[0] - 1 : pair[0]);
        }
        house = Desk.of(CHECK, "r0 9 10 11 21 22 23 6 7 8 28 28");
        house.worth(28, false, 7 | 32, WEST, 0);
        CHECK.due("OPEN", house.deskForms(), 32);
        CHECK.due("OPEN, HAN", house.desk(1), 1);
    }

    /** "3 DRAWN 1/- (the WINNER is its own DRAW)"; hidden FOURS are not OPEN. */
    private static void drawnNotOpen() {
        forms(PLAIN, 28);
        drawn(PLAIN, 28, 3);
        drawn("r0 9 10 11 21 22 23 6 7 8 28 28", 28);
        drawn("t1 9 10 11 21 22 23 6 7 8 28 28", 28);
        drawn("f1 9 10 11 21 22 23 6 7 8 28 28", 28);
        drawn("h1 9 10 11 21 22 23 6 7 8 28 28", 28, 3);
        drawn("h1 f4 21 22 23 6 7 8 28 28", 28);
    }

    /** "8 no ENDS": OPEN too; one END is enough against it. */
    private static void noEnds() {
        forms("1 2 3 10 11 12 21 22 23 5 6 7 14 14", 14, 8);
        forms("r1 10 11 12 21 22 23 5 6 7 14 14", 14, 8);
        forms("0 1 2 10 11 12 21 22 23 5 6 7 14 14", 14);
        forms("1 2 3 10 11 12 21 22 23 6 7 8 14 14", 14);
        forms("r6 1 2 3 10 11 12 21 22 23 14 14", 14);
        forms("1 2 3 10 11 12 21 22 23 5 6 7 28 28", 28);
    }

    /** "9 FLAT 1/-: four RUNS". */
    private static void flatRuns() {
        forms(PLAIN, 21, 9);
        forms("0 1 2 9 10 11 21 22 23 7 7 7 28 28", 21);
        forms("r0 9 10 11 21 22 23 6 7 8 28 28", 21);
        forms("h1 9 10 11 21 22 23 6 7 8 28 28", 21);
    }

    /** "a PAIR of neither DRAGONS nor the SEAT's WIND nor the ROUND's". */
    private static void flatPair() {
        String sets = "0 1 2 9 10 11 21 22 23 6 7 8 ";
        for (int pair = 27; pair <= 33; pair++) {
            for (int winds = 0; winds < 16; winds++) {
                boolean flat = pair < 31 && pair - 27 != (winds & 3) && pair - 27 != winds >> 2;
                CHECK.due("FLAT with " + pair + ", winds " + winds,
                    weigh(sets + pair + " " + pair, 21, false, winds).deskForms(), flat ? 1L << 9 : 0);
            }
        }
    }

    /** "the WINNER completed a RUN as its lowest (not 7 8 9) or highest (not 1 2 3)". */
    private static void flatWinner() {
        forms(PLAIN, 0, 9);
        forms(PLAIN, 1);
        forms(PLAIN, 2);
        forms(PLAIN, 21, 9);
        forms(PLAIN, 22);
        forms(PLAIN, 23, 9);
        forms(PLAIN, 6);
        forms(PLAIN, 7);
        forms(PLAIN, 8, 9);
        forms(PLAIN, 28);
        // 7 of 6 7 8 or of 5 6 7: one of them is enough.
        forms("5 6 7 7 8 6 9 10 11 21 22 23 28 28", 7, 9);
        forms("1 2 3 4 5 6 12 13 14 21 22 23 3 3", 3, 8, 9);
    }

    /** "10 one pair of like RUNS 1/-, 28 two such 3/- (a RUN counts once)". */
    private static void likeRuns() {
        forms("0 1 2 0 1 2 12 13 14 23 24 25 31 31", 31, 10);
        forms("0 1 2 1 2 3 12 13 14 23 24 25 31 31", 31);
        forms("0 1 2 9 10 11 12 13 14 23 24 25 31 31", 31);
        forms("3 4 5 3 4 5 4 5 6 14 15 16 31 31", 31, 10);
        // Three like RUNS are one pair.
        forms("0 0 0 1 1 1 2 2 2 9 10 11 26 26", 26, 10, 27);
        forms("0 1 2 0 1 2 12 13 14 12 13 14 31 31", 31, 28);
        forms("0 1 2 0 1 2 0 1 2 0 1 2 31 31", 31, 23, 26, 28);
        forms("r0 0 1 2 12 13 14 12 13 14 31 31", 31);
        // Three like RUNS, HAN 1, are three hidden THREES, too.
        TileHouse house = weigh("3 4 5 3 4 5 3 4 5 14 15 16 31 31", 14, false, WEST);
        CHECK.due("three like RUNS, HAN", house.desk(1), 2);
        CHECK.due("are three hidden THREES", house.deskForms(), Script.bits(20));
    }

    /** "THREES or FOURS of 11, 12, 13 KINDS 31, 32, 33, 14 the SEAT's WIND, 15 the ROUND's". */
    private static void threesOfDragonsAndWinds() {
        for (int kind = 31; kind <= 33; kind++) {
            forms("t" + kind + " 0 1 2 12 13 14 23 24 25 28 28", 28, kind - 20);
            forms("f" + kind + " 0 1 2 12 13 14 23 24 25 28 28", 28, kind - 20);
            forms("h" + kind + " 0 1 2 12 13 14 23 24 25 28 28", 28, kind - 20);
            forms(kind + " " + kind + " " + kind + " 0 1 2 12 13 14 23 24 25 28 28", 28, kind - 20);
            forms("0 1 2 12 13 14 23 24 25 3 4 5 " + kind + " " + kind, 3);
        }
        forms("t29 0 1 2 12 13 14 23 24 25 9 9", 9, 14, 15);
        forms("t28 0 1 2 12 13 14 23 24 25 9 9", 9);
        forms("t30 0 1 2 12 13 14 23 24 25 9 9", 9);
    }

    /** "16 seven PAIRS": two like RUNS twice are worth more as SETS. */
    private static void sevenPairs() {
        forms("1 1 4 4 9 9 14 14 20 20 28 28 33 33", 33, 16);
        forms("0 0 1 1 2 2 12 12 13 13 14 14 31 31", 31, 28);
        forms("0 0 1 1 2 2 12 12 13 13 15 15 31 31", 31, 16);
    }

    /** "17 RUNS of all suits from one number 2/1". */
    private static void runsOfAllSuits() {
        forms("3 4 5 12 13 14 21 22 23 9 10 11 31 31", 31, 17);
        forms("0 1 2 9 10 11 18 19 20 3 4 5 31 31", 31, 17);
        forms("6 7 8 15 16 17 24 25 26 3 4 5 31 31", 31, 17);
        forms("3 4 5 12 13 14 22 23 24 9 10 11 31 31", 31);
        forms("3 4 5 12 13 14 20 21 22 9 10 11 31 31", 31);
        CHECK.due("HAN", weigh("3 4 5 12 13 14 21 22 23 9 10 11 31 31", 31, false, WEST).desk(1), 2);
        CHECK.due("HAN, OPEN", weigh("r3 12 13 14 21 22 23 9 10 11 31 31", 31, false, WEST).desk(1), 1);
    }

    /** "18 RUNS from 1, 4, 7 of one suit 2/1". */
    private static void oneFourSeven() {
        for (int first = 0; first <= 18; first += 9) {
            String runs = "";
            for (int kind = first; kind < first + 9; kind++) {
                runs += kind + " ";
            }
            forms(runs + (first + 9) % 27 + " " + (first + 10) % 27 + " " + (first + 11) % 27 + " 31 31", 31, 18);
        }
        forms("0 1 2 12 13 14 6 7 8 9 10 11 31 31", 31);
        forms("0 1 2 3 4 5 15 16 17 9 10 11 31 31", 31);
        // 4 7 and 10, which is the next suit's 1.
        forms("3 4 5 6 7 8 9 10 11 21 22 23 31 31", 31);
        CHECK.due("HAN, OPEN", weigh("r0 3 4 5 6 7 8 9 10 11 31 31", 31, false, WEST).desk(1), 1);
    }

    /** "19 no RUNS 2 (first sort)". */
    private static void noRuns() {
        forms("t1 t12 t24 28 28 28 31 31", 31, 19);
        forms("t1 t12 h24 28 28 28 31 31", 31, 19);
        forms("r1 t12 t24 28 28 28 31 31", 31);
        forms("1 1 4 4 9 9 14 14 20 20 28 28 33 33", 1, 16);
    }

    /** "20 three hidden THREES or FOURS": two are not enough; with four it is 33. */
    private static void threeHidden() {
        drawn("r12 1 1 1 6 6 6 24 24 24 31 31", 31, 20);
        drawn("r12 h1 h6 24 24 24 31 31", 31, 20);
        drawn("r12 t1 6 6 6 24 24 24 31 31", 31);
        drawn("r12 f1 h6 24 24 24 31 31", 31);
        drawn("1 1 1 6 6 6 24 24 24 13 13 13 31 31", 31, 33);
        drawn("t13 1 1 1 6 6 6 24 24 24 31 31", 31, 19, 20);
    }

    /** "A THREE that another's tile completed is not hidden, nor one that was claimed." */
    private static void anothersTileCompletes() {
        drawn("r12 1 1 1 6 6 6 24 24 24 31 31", 24, 20);
        forms("r12 1 1 1 6 6 6 24 24 24 31 31", 24);
        forms("r12 1 1 1 6 6 6 24 24 24 31 31", 31, 20);
        // The 24 completed the RUN, then three are hidden; or the THREE, then two.
        forms("24 25 26 1 1 1 6 6 6 24 24 24 31 31", 24, 20);
        forms("24 25 26 1 1 1 6 6 6 24 24 24 31 31", 25, 20);
        // Four of them: by the PAIR 33, by a THREE 20.
        forms("1 1 1 6 6 6 24 24 24 13 13 13 31 31", 31, 33);
        forms("1 1 1 6 6 6 24 24 24 13 13 13 31 31", 13, 19, 20);
    }

    /** "21 three FOURS": of any sort; with four it is 41. */
    private static void threeFours() {
        forms("f1 h6 f24 12 13 14 31 31", 31, 21);
        forms("f1 h6 12 12 12 21 22 23 31 31", 31);
        forms("f1 h6 t24 12 13 14 31 31", 31);
        forms("f1 f6 f24 f12 31 31", 31, 41);
    }

    /** "22 THREES or FOURS of one number in all suits". */
    private static void threesOfOneNumber() {
        forms("t4 t13 22 22 22 9 10 11 31 31", 31, 22);
        forms("f4 h13 t22 9 10 11 31 31", 31, 22);
        forms("t0 t9 t18 3 4 5 31 31", 31, 22);
        forms("t8 t17 t26 3 4 5 31 31", 31, 22);
        forms("t4 t13 23 23 23 9 10 11 31 31", 31);
        forms("t4 t13 22 22 9 10 11 30 30 30", 9);
    }

    /** "23 ENDS in each SET and the PAIR, some RUN, some HONOUR 2/1". */
    private static void endsInEach() {
        forms("0 1 2 6 7 8 9 10 11 28 28 28 31 31", 31, 23);
        forms("0 1 2 6 7 8 9 10 11 28 28 28 17 17", 17, 23);
        forms("0 1 2 6 7 8 9 10 11 17 17 17 31 31", 31, 23);
        forms("t8 t9 0 1 2 28 28 28 31 31", 31, 23);
        // No RUN, no HONOUR, one SET without an END, a PAIR without one.
        forms("t0 t8 t9 28 28 28 31 31", 31, 19, 24);
        forms("0 1 2 6 7 8 9 10 11 17 17 17 26 26", 26, 27);
        forms("0 1 2 5 6 7 9 10 11 28 28 28 31 31", 31);
        forms("0 1 2 6 7 8 9 10 11 28 28 28 20 20", 20);
        CHECK.due("HAN", weigh("0 1 2 6 7 8 9 10 11 28 28 28 31 31", 31, false, WEST).desk(1), 2);
        CHECK.due("HAN, OPEN", weigh("r0 6 7 8 9 10 11 28 28 28 31 31", 31, false, WEST).desk(1), 1);
    }

    /** "27 TERMINALS in each SET and the PAIR, some RUN 3/2 (no HONOURS)". */
    private static void terminalsInEach() {
        forms("0 1 2 6 7 8 9 10 11 17 17 17 26 26", 26, 27);
        forms("0 1 2 6 7 8 9 10 11 28 28 28 26 26", 26, 23);
        forms("t8 t9 0 1 2 17 17 17 26 26", 26, 27);
        forms("t0 t8 t9 17 17 17 26 26", 26, 38);
        CHECK.due("HAN", weigh("0 1 2 6 7 8 9 10 11 17 17 17 26 26", 26, false, WEST).desk(1), 3);
        CHECK.due("HAN, OPEN", weigh("r0 6 7 8 9 10 11 17 17 17 26 26", 26, false, WEST).desk(1), 2);
    }

    /** "24 all tiles ENDS (not thirteen)". */
    private static void allEnds() {
        forms("t0 t8 28 28 28 9 9 9 31 31", 31, 19, 24);
        forms("t0 t8 28 28 28 10 10 10 31 31", 31, 19);
        forms("0 0 8 8 9 9 17 17 18 18 28 28 33 33", 33, 16, 24);
        forms("0 8 9 17 18 26 27 28 29 30 31 32 33 33", 33, 32);
    }

    /** "25 SETS of two DRAGONS and a PAIR of the third". */
    private static void twoDragons() {
        forms("t31 t32 33 33 0 1 2 12 13 14", 33, 11, 12, 25);
        forms("f31 h33 32 32 0 1 2 12 13 14", 32, 11, 13, 25);
        forms("t31 t32 28 28 0 1 2 12 13 14", 28, 11, 12);
        forms("t31 33 33 0 1 2 12 13 14 3 4 5", 33, 11);
    }

    /** "26 one suit, and HONOURS 3/2": some of both. */
    private static void oneSuitAndHonours() {
        forms("0 1 2 3 4 5 7 7 7 8 8 28 28 28", 8, 26);
        forms("0 1 2 3 4 5 7 7 7 8 8 9 9 9", 8);
        forms("9 10 11 12 13 14 16 16 16 28 28 17 17 17", 28, 26);
        CHECK.due("HAN", weigh("0 1 2 3 4 5 7 7 7 8 8 28 28 28", 8, false, WEST).desk(1), 3);
        CHECK.due("HAN, OPEN", weigh("r0 3 4 5 7 7 7 8 8 28 28 28", 8, false, WEST).desk(1), 2);
        forms("0 0 2 2 4 4 5 5 7 7 28 28 33 33", 0, 16, 26);
    }

    /** "29 one suit alone 6/5". */
    private static void oneSuit() {
        forms("0 1 2 3 4 5 7 7 7 8 8 4 4 4", 8, 29);
        forms("0 1 2 3 4 5 7 7 7 28 28 4 4 4", 28, 26);
        CHECK.due("HAN", weigh("0 1 2 3 4 5 7 7 7 8 8 4 4 4", 8, false, WEST).desk(1), 6);
        CHECK.due("HAN, OPEN", weigh("r0 3 4 5 7 7 7 8 8 4 4 4", 8, false, WEST).desk(1), 5);
        forms("0 0 1 1 3 3 4 4 5 5 7 7 8 8", 0, 16, 29);
    }

    /** "32 the thirteen ENDS": one of each and one of them besides, whichever. */
    private static void thirteen() {
        for (int kind : new int[] {0, 8, 9, 17, 18, 26, 27, 28, 29, 30, 31, 32, 33}) {
            forms("0 8 9 17 18 26 27 28 29 30 31 32 33 " + kind, kind, 32);
        }
    }

    /** "33 four hidden THREES or FOURS". */
    private static void fourHidden() {
        drawn("1 1 1 6 6 6 24 24 24 13 13 13 31 31", 1, 33);
        drawn("h1 h6 24 24 24 13 13 13 31 31", 24, 33);
        drawn("f1 h6 24 24 24 13 13 13 31 31", 24, 19, 20);
        forms("h1 h6 24 24 24 13 13 13 31 31", 24, 19, 20);
        forms("h1 h6 24 24 24 13 13 13 31 31", 31, 33);
    }

    /** "34 SETS of all DRAGONS". */
    private static void allDragons() {
        forms("t31 f32 h33 0 1 2 12 12", 12, 34);
        forms("t31 f32 33 33 0 1 2 12 12 12", 12, 11, 12, 25);
    }

    /** "35 SETS of three WINDS and a PAIR of the fourth". */
    private static void threeWinds() {
        forms("t27 f28 h29 30 30 0 1 2", 30, 35);
        forms("t28 f29 h30 27 27 0 1 2", 27, 35);
        forms("t27 f28 h29 31 31 0 1 2", 31, 14, 15, 23, 26);
        forms("t27 f28 30 30 0 1 2 3 4 5", 30, 26);
    }

    /** "36 SETS of all WINDS". */
    private static void fourWinds() {
        forms("t27 f28 h29 t30 0 0", 0, 36);
        forms("t27 f28 h29 t30 31 31", 31, 36, 37);
    }

    /** "37 all HONOURS": of SETS, of seven PAIRS. */
    private static void allHonours() {
        forms("t27 t28 t31 32 32 32 33 33", 33, 37);
        forms("t27 t28 t31 32 32 32 0 0", 0, 11, 12, 19, 24, 26);
        forms("27 27 28 28 29 29 30 30 31 31 32 32 33 33", 33, 37);
        forms("27 27 28 28 29 29 30 30 31 31 32 32 0 0", 0, 16, 24, 26);
    }

    /** "38 all TERMINALS". */
    private static void allTerminals() {
        forms("t0 t8 t9 17 17 17 18 18", 18, 38);
        forms("t0 t8 t9 17 17 17 19 19", 19, 19);
        forms("t0 t8 t9 17 17 17 31 31", 31, 19, 24);
    }

    /** "39 all of KINDS 19, 20, 21, 23, 25, 32": some of them are enough. */
    private static void greens() {
        forms("r19 19 20 21 23 23 23 25 25 32 32 32", 25, 39);
        forms("r19 19 20 21 t23 t25 32 32", 32, 39);
        forms("r19 t23 t25 t32 19 19", 19, 39);
        forms("r19 19 20 21 t23 t25 24 24", 24, 8, 29);
        forms("r19 19 20 21 t23 t26 32 32", 32, 26);
        forms("r19 19 20 21 t23 t33 32 32", 32, 13, 26);
    }

    /** "40 nothing laid down, one suit, three 1s and 9s and one of each other at least". */
    private static void nineGates() {
        for (int first = 0; first <= 18; first += 9) {
            String gates = "";
            for (int kind : new int[] {0, 0, 0, 1, 2, 3, 4, 5, 6, 7, 8, 8, 8}) {
                gates += first + kind + " ";
            }
            for (int kind = first; kind < first + 9; kind++) {
                forms(gates + kind, kind, 40);
            }
        }
        // Two 1s; no 9 but another suit's.
        forms("0 0 1 1 2 2 3 4 5 6 7 8 8 8", 8, 9, 10, 18, 29);
        forms("0 0 0 1 2 3 3 4 5 6 7 8 9 9", 9);
        // Three 1s and 9s and one of each other, but a RUN is laid down.
        forms("r1 0 0 0 4 5 6 7 7 8 8 8", 7, 29);
        forms("r2 0 0 0 1 1 5 6 7 8 8 8", 1, 29);
    }

    /** "41 four FOURS". */
    private static void fourFours() {
        forms("f1 f6 f12 f24 31 31", 31, 41);
        forms("h1 f6 h12 f24 31 31", 31, 41);
        forms("h1 h6 h12 h24 31 31", 31, 33, 41);
        forms("f1 f6 f12 t24 31 31", 31, 19, 21);
    }

    /** "each with HAN 13 .. With any of these no other FORM and no dear tile counts." */
    private static void greatOnesAlone() {
        TileHouse house = Desk.of(CHECK, "27 27 27 28 28 28 29 29 29 30 30 30 31 31");
        CHECK.due("BASE", house.worth(31, true, 0xF7, 0, 63), 24000);
        CHECK.due("HAN", house.desk(1), 39);
        CHECK.due("FORMS", house.deskForms(), Script.bits(33, 36, 37));
        CHECK.due("with HEAVEN and EARTH", house.worth(31, true, 3L << 42, 0, 63), 40000);
        CHECK.due("HAN", house.desk(1), 65);
        house = Desk.of(CHECK, PLAIN);
        CHECK.due("HEAVEN alone", house.worth(21, true, 1L << 42 | 0xF7, WEST, 9), 8000);
        CHECK.due("HAN", house.desk(1), 13);
        CHECK.due("FORMS", house.deskForms(), 1L << 42);
        // FU as always: four RUNS and a PAIR that is worth nothing.
        CHECK.due("FU", house.desk(2), 20);
    }

    /** "up to the next 10": 20, 30 and 40 stay, 22 to 28 are 30, 32 is 40. */
    private static void fuUpToTheNextTen() {
        fu(PLAIN, 21, true, WEST, 20);
        fu(PLAIN, 22, true, WEST, 30);
        fu(PLAIN, 21, false, WEST, 30);
        fu(PLAIN, 22, false, WEST, 40);
        // 20, a hidden THREE of 1 4, drawn 2, the middle 2: 28; a PAIR of DRAGONS: 30; of both WINDS: 32.
        String sets = "1 1 1 9 10 11 21 22 23 5 6 7 ";
        fu(sets + "14 14", 22, true, WEST, 30);
        fu(sets + "31 31", 22, true, WEST, 30);
        fu(sets + "29 29", 22, true, WEST, 40);
        fu(sets + "31 31", 31, true, WEST, 30);
    }

    /** "at least 30 if OPEN": 20 is 30, not less of others. */
    private static void fuOpenAtLeastThirty() {
        fu("r0 9 10 11 21 22 23 6 7 8 28 28", 21, false, WEST, 30);
        fu("r0 9 10 11 21 22 23 6 7 8 28 28", 21, true, WEST, 30);
        fu("r0 9 10 11 21 22 23 f27 28 28", 21, false, WEST, 40);
    }

    /** "for THREES 2, FOURS 8, twice that if hidden, twice that of ENDS". */
    private static void fuOfSets() {
        // 20, and another SET that is worth 8 to 12 more to stand right under a ten.
        fu("t1 t9 2 3 4 12 13 14 28 28", 2, false, 0, 30);
        int[][] sets = {{1, 1, 2}, {1, 0, 4}, {1, 28, 4}, {2, 1, 8}, {2, 0, 16}, {2, 28, 16}, {3, 1, 16}, {3, 0, 32},
            {3, 28, 32}};
        for (int[] set : sets) {
            // OPEN by r3: 20 and a FOUR of 12, claimed, 8.
            String tiles = "r3 f12 " + "rtfh".charAt(set[0]) + set[1] + " 21 22 23 15 15";
            fu(tiles, 21, false, WEST, (28 + set[2] + 9) / 10 * 10);
        }
        // In the hand: hidden, if another's tile did not complete it.
        fu("r3 f12 1 1 1 21 22 23 15 15", 21, false, WEST, 40);
        fu("r3 f12 0 0 0 21 22 23 15 15", 21, false, WEST, 40);
        fu("r3 h12 0 0 0 21 22 23 15 15", 21, false, WEST, 50);
        fu("r3 h12 0 0 0 21 22 23 15 15", 0, false, WEST, 40);
        fu("r3 h12 0 0 0 21 22 23 15 15", 0, true, WEST, 50);
    }

    /** "PAIR of DRAGONS 2, of the SEAT's WIND 2, of the ROUND's 2 (of both 4)". */
    private static void fuOfPairs() {
        // 20 and a hidden FOUR of 1, 16, with another's tile 10: 46; 48, 50 and 52 with a PAIR and the middle.
        String sets = "h1 9 10 11 21 22 23 5 6 7 ";
        int[][] pairs = {{14, 0}, {28, 0}, {27, 2}, {30, 2}, {31, 2}, {32, 2}, {33, 2}};
        for (int[] pair : pairs) {
            fu(sets + pair[0] + " " + pair[0], 22, false, 0 | 3 << 2, (48 + pair[1] + 9) / 10 * 10);
        }
        fu(sets + "29 29", 22, false, WEST, 60);
        fu(sets + "29 29", 22, false, 2, 50);
    }

    /** "2 if the WINNER completed the PAIR, the middle of a RUN, 3 of 1 2 3, or 7 of 7 8 9". */
    private static void fuOfTheWinner() {
        // 20 and a PAIR of DRAGONS 2, OPEN, THREES of 9 4 and of 12 2, 28; a FOUR makes it 30 or 32.
        String sets = "f12 t13 0 1 2 15 16 17 14 14";
        fu(sets, 0, false, WEST, 30);
        fu(sets, 1, false, WEST, 40);
        fu(sets, 2, false, WEST, 40);
        fu(sets, 15, false, WEST, 40);
        fu(sets, 16, false, WEST, 40);
        fu(sets, 17, false, WEST, 30);
        fu(sets, 14, false, WEST, 40);
        // 3 of 2 3 4 and of 3 4 5, 7 of 5 6 7 and of 6 7 8.
        fu("f12 t13 1 2 3 23 24 25 14 14", 1, false, WEST, 30);
        fu("f12 t13 1 2 3 23 24 25 14 14", 3, false, WEST, 30);
        fu("f12 t13 1 2 3 23 24 25 14 14", 23, false, WEST, 30);
        fu("f12 t13 1 2 3 23 24 25 14 14", 25, false, WEST, 30);
        // A THREE: no 2.
        fu("f12 13 13 13 1 2 3 23 24 25 14 14", 13, false, WEST, 30);
    }

    /** "2 if DRAWN, unless it is FLAT". */
    private static void fuDrawn() {
        fu("h1 9 10 11 21 22 23 5 6 7 14 14", 21, true, WEST, 40);
        fu("h1 f8 21 22 23 5 6 7 31 31", 22, true, WEST, 60);
        fu(PLAIN, 21, true, WEST, 20);
        fu(PLAIN, 28, true, WEST, 30);
        // 20, FOURS of 12 8, of 13 2: 30; drawn 32.
        fu("f12 t13 0 1 2 15 16 17 14 14", 0, true, WEST, 40);
    }

    /** "10 more with another's tile in a hand not OPEN". */
    private static void fuOfAnothersTile() {
        fu("h12 0 1 2 15 16 17 5 6 7 14 14", 0, false, WEST, 50);
        fu("h12 0 1 2 15 16 17 5 6 7 14 14", 0, true, WEST, 40);
        fu("f12 0 1 2 15 16 17 5 6 7 14 14", 0, false, WEST, 30);
        fu("h12 r0 15 16 17 5 6 7 14 14", 5, false, WEST, 40);
    }

    /** "seven PAIRS 25; the thirteen 30": whatever the PAIRS are, drawn or not. */
    private static void fuOfOtherSorts() {
        fu("1 1 4 4 9 9 14 14 20 20 29 29 33 33", 33, false, WEST, 25);
        fu("1 1 4 4 9 9 14 14 20 20 29 29 33 33", 29, true, WEST, 25);
        fu("0 8 9 17 18 26 27 28 29 30 31 32 33 33", 33, false, WEST, 30);
        fu("0 8 9 17 18 26 27 28 29 30 31 32 33 33", 0, true, WEST, 30);
    }

    /** "if there is any FORM, 1 more for each": "Without any FORM a hand is worth nothing". */
    private static void dearTilesWithAForm() {
        TileHouse house = Desk.of(CHECK, PLAIN);
        CHECK.due("no FORM", house.worth(28, false, 0, WEST, 13), 0);
        CHECK.due("no FORM, HAN", house.desk(1), 0);
        CHECK.due("a FORM", house.worth(28, false, 1, WEST, 1), 640);
        CHECK.due("a FORM, HAN", house.desk(1), 2);
        house = Desk.of(CHECK, "r0 9 10 11 21 22 23 6 7 8 28 28");
        CHECK.due("none that counts", house.worth(28, true, 7, WEST, 13), 0);
    }

    /** "FU times 2 to the (2 + HAN), 2,000 at most, if HAN is 4 or less". */
    private static void baseOfFourAndLess() {
        // FU 20, 30, 40, 60, 70, 110 with HAN 1 to 4.
        base(PLAIN, 21, true, 20, 2, 320, 640, 1280, 2000);
        base(PLAIN, 21, false, 30, 1, 240, 480, 960, 1920, 2000);
        base("t31 f12 0 1 2 15 16 17 14 14", 0, false, 40, 1, 320, 640, 1280, 2000, 2000);
        base("f31 f12 0 1 2 15 16 17 14 14", 0, false, 50, 1, 400, 800, 1600, 2000, 2000);
        base("h31 0 1 2 15 16 17 5 6 7 14 14", 0, false, 70, 1, 560, 1120, 2000, 2000, 2000);
        base("h31 h0 1 2 3 15 16 17 14 14", 1, false, 100, 1, 800, 1600, 2000, 2000, 2000);
        base("1 1 4 4 9 9 14 14 20 20 28 28 33 33", 33, false, 25, 2, 400, 800, 1600, 2000);
    }

    /** BASES with 0, 1, 2, .. dear tiles, from a first HAN on. */
    private static void base(String tiles, int kind, boolean drawn, int fu, int han, int... want) {
        TileHouse house = Desk.of(CHECK, tiles);
        for (int dear = 0; dear < want.length; dear++) {
            CHECK.due(tiles + " with " + dear + " dear ones: BASE", house.worth(kind, drawn, 0, WEST, dear),
                want[dear]);
            CHECK.due(tiles + ": HAN", house.desk(1), han + dear);
            CHECK.due(tiles + ": FU", house.desk(2), fu);
        }
    }

    /** "HAN 5: 2,000; 6, 7: 3,000; 8 .. 10: 4,000; 11, 12: 6,000; from 13 on 8,000". */
    private static void baseOfFiveAndMore() {
        int[] bases = {0, 240, 480, 960, 1920, 2000, 3000, 3000, 4000, 4000, 4000, 6000, 6000, 8000, 8000};
        TileHouse house = Desk.of(CHECK, PLAIN);
        for (int han = 1; han < bases.length; han++) {
            CHECK.due("HAN " + han, house.worth(21, false, 0, WEST, han - 1), bases[han]);
            CHECK.due("HAN", house.desk(1), han);
        }
        CHECK.due("HAN 64", house.worth(21, false, 0, WEST, 63), 8000);
        CHECK.due("HAN 64", house.desk(1), 64);
    }

    /** "The WAY counts that has the greatest BASE". */
    private static void greatestBase() {
        // Seven PAIRS with 25 FU and HAN 2, or like RUNS twice with HAN 3.
        TileHouse house = weigh("0 0 1 1 2 2 12 12 13 13 14 14 31 31", 31, false, WEST);
        CHECK.due("BASE", house.desk(0), 1280);
        // The 3 as the highest of 1 2 3 makes it FLAT; as the PAIR it does not.
        house = weigh("1 2 3 4 5 6 12 13 14 21 22 23 3 3", 3, false, WEST);
        CHECK.due("BASE", house.desk(0), 480);
        CHECK.due("FU", house.desk(2), 30);
    }

    /** "then HAN, then FU". */
    private static void thenHanThenFu() {
        // 8,000 both ways: the 3 as the highest of 1 2 3 has 30 FU and FLAT, as the PAIR 40 FU.
        TileHouse house = Desk.of(CHECK, "1 2 3 4 5 6 12 13 14 21 22 23 3 3");
        CHECK.due("HAN, BASE", house.worth(3, false, 0, WEST, 12), 8000);
        CHECK.due("HAN", house.desk(1), 14);
        CHECK.due("HAN, FU", house.desk(2), 30);
        // Three like RUNS and FLAT, 20 FU, or three hidden THREES, 40 FU: both HAN 3 and the dear tiles.
        house = Desk.of(CHECK, "3 3 3 4 4 4 5 5 5 14 15 16 28 28");
        CHECK.due("FU, BASE", house.worth(14, true, 0, WEST, 40), 8000);
        CHECK.due("FU, HAN", house.desk(1), 43);
        CHECK.due("FU", house.desk(2), 40);
        CHECK.due("FU, FORMS", house.deskForms(), Script.bits(3, 20));
        // EARTH: the 17 completed the PAIR (24 FU) or a RUN.
        house = Desk.of(CHECK, "9 10 11 14 14 15 15 16 16 17 17 24 25 26");
        CHECK.due("EARTH, BASE", house.worth(17, true, 1L << 43, 1, 0), 8000);
        CHECK.due("EARTH, FU", house.desk(2), 30);
    }

    /** "then FORMS (as bits of a long)". */
    private static void thenForms() {
        // 2 2, 2 3 4, 5 5 5: with the FOUR and the other THREE three hidden ones (20), 54 or 56 FU.
        // 2 2 2, 3 4 5, 5 5: the THREES of one number in all suits (22), but only two hidden, 52 FU.
        TileHouse house = Desk.of(CHECK, "h10 19 19 19 1 1 1 2 3 4 4 4");
        alike(house, 1);
        // The other way round: now the WAY that is told first, by its lower PAIR, has the greater FORMS.
        house = Desk.of(CHECK, "h13 22 22 22 1 1 1 2 3 4 4 4");
        alike(house, 4);
    }

    private static void alike(TileHouse house, int kind) {
        CHECK.due("FORMS, BASE", house.worth(kind, false, 0, WEST, 0), 1920);
        CHECK.due("FORMS, HAN", house.desk(1), 3);
        CHECK.due("FORMS, FU", house.desk(2), 60);
        CHECK.due("FORMS, WAYS", house.desk(3), 3);
        CHECK.due("FORMS", house.deskForms(), Script.bits(8, 22));
    }
}
