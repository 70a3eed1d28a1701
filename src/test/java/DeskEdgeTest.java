/** Promises 22 to 28, a test for each sentence with an edge. */
public final class DeskEdgeTest {
    private static final Check CHECK = new Check("DeskEdgeTest");
    private static final int[] NO_KIND = {Integer.MIN_VALUE, -34, -1, 34, 35, 64, Integer.MAX_VALUE};
    /** Four RUNS and a PAIR: with winds 10 and the WINNER 27 no FORM but what is told. */
    private static final String PLAIN = "0 1 2 9 10 11 21 22 23 6 7 8 27 27";

    public static void main(String[] args) {
        clearEmpties();
        clearLeavesTheLatestWorth();
        layNoSuchKind();
        layOneToFour();
        layFourOfAKind();
        layLaidDownOnesToo();
        layFourteenTiles();
        setNoSuchSort();
        setNoRun();
        setNoSuchKind();
        setFourOfAKind();
        setFourteenTiles();
        refusedChangesNothing();
        worthNotFull();
        worthNothing();
        worthNoSuchTile();
        worthWinnerLaidDown();
        worthToldOthersDoNotCount();
        worthToldNoTest();
        worthWinds();
        worthDear();
        worthOpenToldOnes();
        deskOfTheLatest();
        deskOfOthers();
        waysOfCompleting();
        waysLikeSets();
        waysOfSeveralSorts();
        deskFormsOfTheLatest();
        deskWaitsThirteen();
        deskWaitsAllFour();
        deskWaitsEachSort();
        deskAndGame();
        CHECK.end();
    }

    private static TileHouse desk(String tiles) {
        return Desk.of(CHECK, tiles);
    }

    private static TileHouse more(TileHouse house, String tiles) {
        return Desk.add(CHECK, house, tiles);
    }

    private static void answers(String name, TileHouse house, int base, int han, int fu, int ways, int... forms) {
        CHECK.due(name + ": desk(0)", house.desk(0), base);
        CHECK.due(name + ": desk(1)", house.desk(1), han);
        CHECK.due(name + ": desk(2)", house.desk(2), fu);
        CHECK.due(name + ": desk(3)", house.desk(3), ways);
        CHECK.due(name + ": deskForms()", house.deskForms(), Script.bits(forms));
    }

    /** "it is empty: nothing is laid down, no tile": all 14 places and all tiles are free again. */
    private static void clearEmpties() {
        TileHouse house = desk("h0 h1 h2 h3 4 4");
        house.clear();
        CHECK.due("deskWaits()", house.deskWaits(), 0);
        CHECK.due("worth", house.worth(4, true, 0, 0, 0), 0);
        more(house, "h0 h1 h2 h3 4 4");
        CHECK.due("worth again", house.worth(4, true, 0, 0, 0), 16000);
        // Empty twice, and a new one.
        house.clear();
        house.clear();
        CHECK.yes("lay", house.lay(0, 4));
        house = new TileHouse();
        house.clear();
        CHECK.yes("lay on a new one", house.lay(0, 4));
    }

    /** desk() is "of the latest worth()", whatever lies there now. */
    private static void clearLeavesTheLatestWorth() {
        TileHouse house = desk("h0 h1 h2 h3 4 4");
        house.worth(4, true, 0, 0, 0);
        house.clear();
        answers("cleared", house, 16000, 26, 110, 1, 33, 41);
    }

    /** "no such KIND". */
    private static void layNoSuchKind() {
        TileHouse house = new TileHouse();
        for (int kind : NO_KIND) {
            for (int n = 1; n <= 4; n++) {
                CHECK.no("lay(" + kind + ", " + n + ")", house.lay(kind, n));
            }
        }
        CHECK.yes("lay(0, 1)", house.lay(0, 1));
        CHECK.yes("lay(33, 1)", house.lay(33, 1));
    }

    /** "n is not 1 .. 4". */
    private static void layOneToFour() {
        TileHouse house = new TileHouse();
        for (int n : new int[] {Integer.MIN_VALUE, -4, -1, 0, 5, 6, Integer.MAX_VALUE}) {
            CHECK.no("lay(5, " + n + ")", house.lay(5, n));
        }
        for (int n = 1; n <= 4; n++) {
            CHECK.yes("lay(" + n + ", " + n + ")", house.lay(n, n));
        }
    }

    /** "it would have more than four of it". */
    private static void layFourOfAKind() {
        for (int there = 1; there <= 4; there++) {
            for (int n = 1; n <= 4; n++) {
                TileHouse house = new TileHouse();
                house.lay(7, there);
                CHECK.due(n + " to " + there, house.lay(7, n), there + n <= 4);
            }
        }
    }

    /** "laid down ones too": each KIND of a RUN, three of a THREE, four of a FOUR. */
    private static void layLaidDownOnesToo() {
        for (int kind = 3; kind <= 5; kind++) {
            TileHouse house = desk("r3");
            CHECK.no("four of " + kind, house.lay(kind, 4));
            CHECK.yes("three of " + kind, house.lay(kind, 3));
            CHECK.no("one more", house.lay(kind, 1));
        }
        CHECK.yes("beside a RUN", desk("r3").lay(2, 4));
        CHECK.yes("beside a RUN", desk("r3").lay(6, 4));
        CHECK.no("two to a THREE", desk("t3").lay(3, 2));
        CHECK.yes("one to a THREE", desk("t3").lay(3, 1));
        CHECK.no("one to a FOUR", desk("f3").lay(3, 1));
        CHECK.no("one to a hidden FOUR", desk("h3").lay(3, 1));
    }

    /** "or more than 14 tiles (a SET counts three)": a FOUR, too. */
    private static void layFourteenTiles() {
        String[] eleven = {"0 1 2 3 4 5 6 7 8 9 10", "r0 0 1 2 3 4 5 6 7", "t0 t9 1 1 1 2 2", "f0 h9 f18 1 1"};
        for (String tiles : eleven) {
            CHECK.no(tiles + " and four", desk(tiles).lay(27, 4));
            CHECK.yes(tiles + " and three", desk(tiles).lay(27, 3));
            TileHouse house = desk(tiles);
            CHECK.yes(tiles + " and two", house.lay(27, 2));
            CHECK.no(tiles + " and two and two", house.lay(28, 2));
            CHECK.yes(tiles + " and two and one", house.lay(28, 1));
            CHECK.no(tiles + " and one more", house.lay(29, 1));
        }
        CHECK.no("four FOURS and three", desk("f0 f9 f18 f27").lay(1, 3));
        CHECK.yes("four FOURS and two", desk("f0 f9 f18 f27").lay(1, 2));
    }

    /** "no such sort". */
    private static void setNoSuchSort() {
        TileHouse house = new TileHouse();
        for (int sort : new int[] {Integer.MIN_VALUE, -1, 4, 5, Integer.MAX_VALUE}) {
            CHECK.no("set(" + sort + ", 3)", house.set(sort, 3));
        }
        for (int sort = 0; sort <= 3; sort++) {
            CHECK.yes("set(" + sort + ", .)", house.set(sort, 5 * sort));
        }
    }

    /** "no RUN": from 7 on in each suit, of HONOURS. */
    private static void setNoRun() {
        for (int kind = 0; kind < 34; kind++) {
            boolean run = kind < 27 && kind % 9 < 7;
            CHECK.due("set(0, " + kind + ")", new TileHouse().set(0, kind), run);
            for (int sort = 1; sort <= 3; sort++) {
                CHECK.yes("set(" + sort + ", " + kind + ")", new TileHouse().set(sort, kind));
            }
        }
    }

    /** "Refused likewise": no such KIND. */
    private static void setNoSuchKind() {
        for (int kind : NO_KIND) {
            for (int sort = 0; sort <= 3; sort++) {
                CHECK.no("set(" + sort + ", " + kind + ")", new TileHouse().set(sort, kind));
            }
        }
    }

    /** "Refused likewise": more than four of a KIND, those in the hand and those laid down. */
    private static void setFourOfAKind() {
        for (int there = 1; there <= 4; there++) {
            for (int at = 3; at <= 5; at++) {
                TileHouse house = new TileHouse();
                house.lay(at, there);
                CHECK.due("a RUN with " + there + " of " + at, house.set(0, 3), there <= 3);
            }
            TileHouse house = new TileHouse();
            house.lay(3, there);
            CHECK.due("a THREE with " + there, house.set(1, 3), there <= 1);
            house = new TileHouse();
            house.lay(3, there);
            CHECK.no("a FOUR with " + there, house.set(2, 3));
            CHECK.no("a hidden FOUR with " + there, house.set(3, 3));
        }
        CHECK.yes("a FOUR alone", new TileHouse().set(2, 3));
        CHECK.yes("four like RUNS", desk("r3 r3 r3 r3").lay(6, 2));
        CHECK.no("a RUN beside a FOUR", desk("f5").set(0, 3));
        CHECK.no("a RUN beside a hidden FOUR", desk("h4").set(0, 3));
        CHECK.yes("a RUN beside a THREE", desk("t4").set(0, 3));
        CHECK.no("two RUNS beside a THREE", desk("t4 r3").set(0, 4));
        CHECK.no("a THREE beside two RUNS", desk("r3 r3").set(1, 4));
        CHECK.no("a THREE twice", desk("t4").set(1, 4));
    }

    /** "Refused likewise": more than 14 tiles, a SET counting three. */
    private static void setFourteenTiles() {
        for (int sort = 0; sort <= 3; sort++) {
            CHECK.yes("a SET with 11 tiles", desk("0 1 2 3 4 5 6 7 8 9 10").set(sort, 18));
            CHECK.no("a SET with 12 tiles", desk("0 1 2 3 4 5 6 7 8 9 10 11").set(sort, 18));
            CHECK.yes("a fourth SET with two tiles", desk("f0 h9 t27 1 1").set(sort, 18));
            CHECK.no("a fourth SET with three tiles", desk("f0 h9 t27 1 1 1").set(sort, 18));
            CHECK.no("a fifth SET", desk("f0 h9 t27 r3").set(sort, 18));
        }
    }

    /** "REFUSED calls answer false and change nothing." */
    private static void refusedChangesNothing() {
        TileHouse house = desk(PLAIN.substring(0, PLAIN.length() - 3));
        long waits = house.deskWaits();
        CHECK.no("lay", house.lay(27, 4));
        CHECK.no("lay", house.lay(34, 1));
        CHECK.no("lay", house.lay(3, 5));
        CHECK.no("set", house.set(0, 12));
        CHECK.no("set", house.set(0, 7));
        CHECK.no("set", house.set(4, 12));
        CHECK.due("deskWaits()", house.deskWaits(), waits);
        CHECK.yes("the last tile", house.lay(27, 1));
        CHECK.due("worth", house.worth(27, false, 1, 10, 0), 320);
        // A RUN of which the last KIND alone is there four times leaves nothing of itself.
        house = desk("5 5 5 5");
        CHECK.no("set", house.set(0, 3));
        CHECK.yes("four of 3", house.lay(3, 4));
        CHECK.yes("four of 4", house.lay(4, 4));
    }

    /** "0 if it is not FULL": too few tiles, no tile, one that does not fit. */
    private static void worthNotFull() {
        CHECK.due("nothing", new TileHouse().worth(0, true, -1, 0, 0), 0);
        String thirteen = PLAIN.substring(0, PLAIN.length() - 3);
        TileHouse house = desk(thirteen);
        CHECK.due("13 tiles", house.worth(27, true, 1, 0, 0), 0);
        answers("13 tiles", house, 0, 0, 0, 0);
        CHECK.due("a PAIR", desk("27 27").worth(27, true, -1, 0, 0), 0);
        CHECK.due("three SETS", desk("0 1 2 9 10 11 21 22 23 27 27").worth(27, true, -1, 0, 0), 0);
        CHECK.due("three SETS laid down", desk("h0 f8 t9 27 27").worth(27, true, -1, 0, 0), 0);
        CHECK.due("six PAIRS", desk("1 1 4 4 9 9 14 14 20 20 27 27").worth(27, true, -1, 0, 0), 0);
        house = desk(thirteen + " 28");
        CHECK.due("no PAIR", house.worth(27, true, 1L << 42, 0, 0), 0);
        answers("no PAIR", house, 0, 0, 0, 0);
        CHECK.due("two PAIRS", desk("0 1 2 9 10 11 21 22 23 6 6 8 27 27").worth(27, true, 1, 0, 0), 0);
        CHECK.due("8 9 1", desk("7 8 9 0 1 2 18 19 20 21 22 23 27 27").worth(27, true, 1, 0, 0), 0);
        CHECK.due("three WINDS", desk("28 29 30 0 1 2 18 19 20 21 22 23 27 27").worth(27, true, 1, 0, 0), 0);
        // Twelve ENDS, one twice and one that is none; two twice.
        CHECK.due("no thirteen", desk("0 8 9 17 18 26 27 28 29 30 31 32 32 1").worth(0, true, 1, 0, 0), 0);
        CHECK.due("no thirteen", desk("0 0 8 8 9 17 18 26 27 28 29 30 31 32").worth(0, true, 1, 0, 0), 0);
        CHECK.due("no thirteen", desk("0 8 9 17 18 26 27 28 29 30 31 32 33 1").worth(0, true, 1, 0, 0), 0);
        CHECK.due("PAIRS, one twice", desk("1 1 1 1 9 9 14 14 20 20 27 27 33 33").worth(33, true, 1, 0, 0), 0);
        CHECK.due("PAIRS, the first KIND twice", desk("0 0 0 0 9 9 14 14 20 20 27 27 33 33").worth(33, true, 1, 0, 0), 0);
        CHECK.due("PAIRS beside a SET", desk("h0 1 1 9 9 14 14 20 20 33 33").worth(33, true, 1, 0, 0), 0);
        CHECK.due("four in the hand are no FOUR", desk("1 1 1 1 9 10 11 14 15 16 20 20 20 33")
            .worth(33, true, 1, 0, 0), 0);
    }

    /** "worth nothing": dear tiles alone are no FORM; FULL it is, so there are WAYS. */
    private static void worthNothing() {
        TileHouse house = desk(PLAIN);
        CHECK.due("no FORM", house.worth(27, false, 0, 10, 63), 0);
        answers("no FORM", house, 0, 0, 40, 1);
        CHECK.due("one FORM", house.worth(27, false, 1, 10, 0), 320);
    }

    /** "or has no such tile". */
    private static void worthNoSuchTile() {
        TileHouse house = desk(PLAIN);
        CHECK.yes("such a tile", house.worth(27, true, 1, 10, 0) > 0);
        for (int kind : new int[] {3, 28, 33, -1, 34, Integer.MIN_VALUE, Integer.MAX_VALUE}) {
            CHECK.due("worth(" + kind + ")", house.worth(kind, true, -1, 10, 0), 0);
            answers("no such tile", house, 0, 0, 0, 0);
        }
        house = desk("1 1 4 4 9 9 14 14 20 20 27 27 33 33");
        CHECK.due("seven PAIRS, no such tile", house.worth(0, true, 1, 0, 0), 0);
        house = desk("0 8 9 17 18 26 27 28 29 30 31 32 33 33");
        CHECK.due("thirteen, no such tile", house.worth(1, true, 1, 0, 0), 0);
    }

    /** "one of its tiles not laid down". */
    private static void worthWinnerLaidDown() {
        TileHouse house = desk("r0 9 10 11 21 22 23 6 7 8 27 27");
        for (int kind = 0; kind <= 2; kind++) {
            CHECK.due("laid down", house.worth(kind, true, 16, 10, 0), 0);
        }
        CHECK.due("not laid down", house.worth(6, true, 16, 10, 0), 240);
        house = desk("h0 9 10 11 21 22 23 6 7 8 27 27");
        CHECK.due("a hidden FOUR", house.worth(0, true, 16, 10, 0), 0);
        house = desk("t6 9 10 11 21 22 23 6 7 8 27 27");
        CHECK.due("laid down and not", house.worth(6, true, 16, 10, 0), 240);
    }

    /** "of 0 .. 2, 4 .. 7, 42, 43 as bits; others do not count". */
    private static void worthToldOthersDoNotCount() {
        TileHouse house = desk(PLAIN);
        for (int form = 0; form < 64; form++) {
            boolean told = form <= 2 || form >= 4 && form <= 7 || form == 42 || form == 43;
            house.worth(27, false, 1L << form, 10, 0);
            CHECK.due("told " + form, house.deskForms(), told ? 1L << form : 0);
        }
        house.worth(27, false, -1, 10, 0);
        CHECK.due("all told", house.deskForms(), Script.bits(42, 43));
        house.worth(27, false, ~Script.bits(42, 43), 10, 0);
        CHECK.due("all small ones told", house.deskForms(), Script.bits(1, 2, 4, 5, 6, 7));
        house.worth(27, true, 0, 10, 0);
        CHECK.due("FORM 3 comes by drawn", house.deskForms(), Script.bits(3));
        house.worth(27, false, 8, 10, 0);
        CHECK.due("not by telling", house.deskForms(), 0);
    }

    /** "no test whether they can be so": LAST DRAW without a draw, AT ONCE without a BET. */
    private static void worthToldNoTest() {
        TileHouse house = desk(PLAIN);
        CHECK.due("LAST DRAW and LAST TILE", house.worth(27, false, 48, 10, 0), 640);
        CHECK.due("AT ONCE alone", house.worth(27, false, 4, 10, 0), 320);
        CHECK.due("HEAVEN and EARTH, not drawn", house.worth(27, false, 3L << 42, 10, 0), 16000);
        CHECK.due("ROBBED and drawn", house.worth(27, true, 128, 10, 0), 480);
        // Both BETS: FIRST BET alone counts.
        CHECK.due("both BETS", house.worth(27, false, 3, 10, 0), 640);
        answers("both BETS", house, 640, 2, 40, 1, 1);
    }

    /** "WIND of the SEAT (winds, its lowest two bits) and of the ROUND (the next two)". */
    private static void worthWinds() {
        for (int winds = 0; winds < 16; winds++) {
            for (int kind = 27; kind <= 30; kind++) {
                TileHouse house = desk("t" + kind + " 0 1 2 12 13 14 23 24 25 9 9");
                long want = (kind - 27 == (winds & 3) ? 1L << 14 : 0) | (kind - 27 == winds >> 2 ? 1L << 15 : 0);
                house.worth(0, false, 0, winds, 0);
                CHECK.due(kind + " with winds " + winds, house.deskForms(), want);
                house.worth(0, false, 0, winds | -1 << 4, 0);
                CHECK.due(kind + " with higher bits", house.deskForms(), want);
                house.worth(0, false, 0, winds | 1 << 4, 0);
                CHECK.due(kind + " with one more bit", house.deskForms(), want);
            }
        }
    }

    /** "so many dear tiles (its lowest six bits)". */
    private static void worthDear() {
        TileHouse house = desk(PLAIN);
        int[][] hans = {{0, 1}, {1, 2}, {63, 64}, {64, 1}, {65, 2}, {127, 64}, {-1, 64}, {-64, 1},
            {Integer.MIN_VALUE, 1}, {Integer.MAX_VALUE, 64}};
        for (int[] pair : hans) {
            house.worth(27, false, 1, 10, pair[0]);
            CHECK.due("HAN with " + pair[0], house.desk(1), pair[1]);
        }
    }

    /** "(OPEN: 0 to 2 do not count.)": the others do. A hidden FOUR is not OPEN. */
    private static void worthOpenToldOnes() {
        TileHouse open = desk("r0 9 10 11 21 22 23 6 7 8 27 27");
        for (int form = 0; form <= 2; form++) {
            CHECK.due("OPEN, told " + form, open.worth(27, false, 1L << form, 10, 0), 0);
        }
        for (int form = 4; form <= 7; form++) {
            CHECK.due("OPEN, told " + form, open.worth(27, false, 1L << form, 10, 0), 240);
        }
        CHECK.due("OPEN, drawn", open.worth(27, true, 0, 10, 0), 0);
        CHECK.due("OPEN, told all three", open.worth(27, true, 7, 10, 0), 0);
        CHECK.due("OPEN, told 42", open.worth(27, true, 1L << 42, 10, 0), 8000);
        TileHouse shut = desk("h4 9 10 11 21 22 23 6 7 8 27 27");
        for (int form = 0; form <= 2; form++) {
            CHECK.yes("a hidden FOUR, told " + form, shut.worth(27, false, 1L << form, 10, 0) > 0);
        }
    }

    /** "Of the latest worth()": not of an earlier one, nor of what was laid since. */
    private static void deskOfTheLatest() {
        TileHouse house = new TileHouse();
        answers("before the first", house, 0, 0, 0, 0);
        more(house, PLAIN.substring(0, PLAIN.length() - 3));
        answers("laid", house, 0, 0, 0, 0);
        more(house, "27");
        answers("laid too", house, 0, 0, 0, 0);
        house.worth(27, false, 1, 10, 1);
        answers("worth", house, 640, 2, 40, 1, 0);
        house.worth(27, true, 0, 10, 0);
        answers("worth again", house, 240, 1, 30, 1, 3);
        house.worth(28, true, 0, 10, 0);
        answers("worth of none", house, 0, 0, 0, 0);
    }

    /** "NONE for others". */
    private static void deskOfOthers() {
        TileHouse house = desk(PLAIN);
        house.worth(27, true, 0, 10, 0);
        for (int what : new int[] {Integer.MIN_VALUE, -1, 4, 5, Integer.MAX_VALUE}) {
            CHECK.due("desk(" + what + ")", house.desk(what), -1);
            CHECK.due("desk(" + what + ") of a new one", new TileHouse().desk(what), -1);
        }
    }

    private static void ways(String tiles, int kind, int want) {
        TileHouse house = desk(tiles);
        house.worth(kind, false, 0, 10, 0);
        CHECK.due("WAYS of " + tiles + " by " + kind, house.desk(3), want);
    }

    /** "as often as there are different SETS .. not laid down and PAIR that the WINNER may have completed". */
    private static void waysOfCompleting() {
        ways("1 2 3 12 13 14 23 24 25 6 6 6 31 31", 1, 1);
        ways("1 2 3 3 4 5 12 13 14 23 24 25 31 31", 3, 2);
        ways("1 2 3 12 13 14 23 24 25 31 31 31 3 3", 3, 2);
        ways("1 2 3 3 3 3 12 13 14 23 24 25 31 31", 3, 2);
        ways("1 2 3 3 4 5 3 3 12 13 14 23 24 25", 3, 3);
        // Like RUNS are one.
        ways("1 1 2 2 3 3 12 13 14 23 24 25 31 31", 2, 1);
        // A like RUN that is laid down does not count, nor one that alone has the KIND.
        ways("r1 1 2 3 12 13 14 23 24 25 31 31", 2, 1);
        ways("r1 4 5 6 12 13 14 23 24 25 31 31", 2, 0);
        ways("h1 4 5 6 12 13 14 23 24 25 31 31", 1, 0);
    }

    /** "two WAYS are one if they have the like SETS and PAIR". */
    private static void waysLikeSets() {
        ways("0 0 1 1 2 2 12 13 14 23 24 25 31 31", 31, 1);
        // Three like RUNS or three THREES.
        ways("0 0 0 1 1 1 2 2 2 12 13 14 31 31", 31, 2);
        ways("0 0 0 0 1 1 1 1 2 2 2 2 31 31", 31, 2);
        ways("0 0 0 0 1 1 1 1 2 2 2 2 31 31", 1, 3);
        // The PAIR 1, 1 2 3 and 4 4 4; or the PAIR 4, 1 1 1 and 2 3 4.
        ways("1 1 1 2 3 4 4 4 12 13 14 23 24 25", 12, 2);
        ways("1 1 1 2 3 4 4 4 12 13 14 23 24 25", 4, 3);
    }

    /** Seven PAIRS are a WAY beside those of the first sort; the thirteen are one. */
    private static void waysOfSeveralSorts() {
        ways("0 0 1 1 2 2 12 12 13 13 14 14 31 31", 31, 2);
        ways("1 1 4 4 9 9 14 14 20 20 27 27 33 33", 33, 1);
        ways("0 8 9 17 18 26 27 28 29 30 31 32 33 33", 33, 1);
        ways("0 8 9 17 18 26 27 28 29 30 31 32 33 33", 0, 1);
        ways(PLAIN, 3, 0);
    }

    private static void deskFormsOfTheLatest() {
        TileHouse house = desk(PLAIN);
        CHECK.due("before the first", house.deskForms(), 0);
        house.worth(27, true, 1L << 43, 10, 0);
        CHECK.due("EARTH", house.deskForms(), 1L << 43);
        house.worth(27, false, 0, 10, 0);
        CHECK.due("no FORM", house.deskForms(), 0);
    }

    private static void waits(String tiles, int... kinds) {
        CHECK.due("deskWaits() of " + tiles, desk(tiles).deskWaits(), Script.bits(kinds));
    }

    /** "(it has 13 tiles, SETS counting three) ..; else 0". */
    private static void deskWaitsThirteen() {
        CHECK.due("nothing", new TileHouse().deskWaits(), 0);
        waits("0 1 2 9 10 11 21 22 23 6 7 8");
        waits("0 1 2 9 10 11 21 22 23 6 7 8 27", 27);
        waits(PLAIN);
        waits("h0 f8 t9 r12 27", 27);
        waits("h0 f8 t9 r12");
        waits("h0 f8 t9 r12 27 27");
        // A SET or more is wanting: with one tile they would be FULL, were hands smaller.
        waits("27");
        waits("27 27 1 2");
        waits("27 0 1 2");
        waits("0 1 2 9 10 11 27");
        waits("0 1 2 9 10 11 21 22 23 27");
        waits("h0 f8 27");
        waits("h0 f8 t9 27");
        // One tile that is waited for, and one less.
        waits("h0 f8 t9 27 27 1");
        waits("h0 f8 t9 27 27 1 2", 3);
    }

    /** "of which it has not all four": in the hand, laid down, or both. */
    private static void deskWaitsAllFour() {
        waits("19 19 19 19 1 2 3 4 5 6 14 15 16");
        waits("4 4 4 4 6 6 6 9 10 11 24 25 26", 5);
        waits("t4 r0 r9 r18 4");
        waits("t4 r0 r9 r18 5", 5);
        // 0 and 3 would do; all four of 0 are laid down.
        waits("t0 r0 9 10 11 20 20 1 2", 3);
        waits("h0 9 10 11 20 20 21 22 23 1 2", 3);
        // Seven PAIRS want another KIND.
        waits("0 0 8 8 9 9 17 17 27 27 31 31 31");
        waits("0 0 8 8 9 9 17 17 27 27 31 31 33", 33);
    }

    /** FULL by each of the three sorts; with SETS laid down by the first alone. */
    private static void deskWaitsEachSort() {
        waits("0 1 2 9 10 11 20 20 20 27 27 31 31", 27, 31);
        waits("0 0 0 1 2 3 4 5 6 7 8 8 8", 0, 1, 2, 3, 4, 5, 6, 7, 8);
        waits("0 8 9 17 18 26 27 28 29 30 31 32 33", 0, 8, 9, 17, 18, 26, 27, 28, 29, 30, 31, 32, 33);
        waits("0 0 8 9 17 18 26 27 28 29 30 31 32", 33);
        waits("8 8 9 17 18 26 27 28 29 30 31 32 33", 0);
        waits("h1 0 0 8 8 9 9 17 17 27");
        // Nothing goes over the end of a suit, nor among HONOURS.
        waits("7 8 9 10 11 12 13 14 18 18 18 27 27", 6);
        waits("28 29 9 10 11 12 13 14 18 18 18 27 27");
        waits("25 26 9 10 11 12 13 14 18 18 18 30 30", 24);
    }

    /** The DESK is not the GAME: neither changes the other. */
    private static void deskAndGame() {
        Script script = new Script(CHECK, "DESK and GAME").play("deal14 d33");
        more(script.house, PLAIN);
        script.house.worth(27, true, 0, 10, 0);
        script.play("t1 d29 p d5 p d31 p d30 p a33 p");
        answers("behind calls of the GAME", script.house, 240, 1, 30, 1, 3);
        script.house.clear();
        script.play("d2 p");
        CHECK.yes("lay", script.house.lay(33, 4));
        // A win of the GAME is not the latest worth().
        script = new Script(CHECK, "a win");
        more(script.house, PLAIN);
        script.house.worth(27, true, 0, 10, 0);
        script.play("deal427 d1 c2 p");
        answers("behind a win", script.house, 240, 1, 30, 1, 3);
    }
}
