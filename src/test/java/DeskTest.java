/** Promises 22 to 28: the DESK, and each FORM, FU and BASE by a hand that is written out. */
public final class DeskTest {
    private static final Check CHECK = new Check("DeskTest");

    public static void main(String[] args) {
        laying();
        settingDown();
        clearing();
        waiting();
        formsOfTheHand();
        formsOfSets();
        greatForms();
        toldForms();
        fu();
        base();
        ways();
        nothing();
        CHECK.end();
    }

    private static TileHouse desk(String tiles) {
        return Desk.of(CHECK, tiles);
    }

    /** BASE, HAN, FU and FORMS of a hand, the WINNER not its own DRAW unless drawn; no dear tile. */
    private static void worth(String tiles, int kind, boolean drawn, int winds, int[] want, int... forms) {
        told(tiles, kind, drawn, 0, winds, want, forms);
    }

    private static void told(String tiles, int kind, boolean drawn, long told, int winds, int[] want,
            int... forms) {
        TileHouse house = desk(tiles);
        String name = tiles + " by " + kind + (drawn ? " drawn" : "");
        CHECK.due(name + ": BASE", house.worth(kind, drawn, told, winds, 0), want[0]);
        CHECK.due(name + ": desk(0)", house.desk(0), want[0]);
        CHECK.due(name + ": HAN", house.desk(1), want[1]);
        CHECK.due(name + ": FU", house.desk(2), want[2]);
        CHECK.due(name + ": FORMS", house.deskForms(), Script.bits(forms));
    }

    private static int[] of(int base, int han, int fu) {
        return new int[] {base, han, fu};
    }

    private static void laying() {
        TileHouse house = new TileHouse();
        for (int kind : new int[] {-1, 34, Integer.MAX_VALUE, Integer.MIN_VALUE}) {
            CHECK.no("lay(" + kind + ", 1)", house.lay(kind, 1));
        }
        for (int n : new int[] {0, 5, -1, Integer.MAX_VALUE, Integer.MIN_VALUE}) {
            CHECK.no("lay(0, " + n + ")", house.lay(0, n));
        }
        CHECK.yes("lay(0, 4)", house.lay(0, 4));
        CHECK.no("a fifth of it", house.lay(0, 1));
        CHECK.yes("lay(33, 3)", house.lay(33, 3));
        CHECK.no("two more of it", house.lay(33, 2));
        CHECK.yes("one more of it", house.lay(33, 1));
        CHECK.yes("lay(5, 4)", house.lay(5, 4));
        CHECK.no("15 tiles", house.lay(6, 3));
        CHECK.yes("14 tiles", house.lay(6, 2));
        CHECK.no("one more", house.lay(7, 1));
        CHECK.no("a SET more", house.set(0, 9));
    }

    private static void settingDown() {
        TileHouse house = new TileHouse();
        int[][] refused = {{-1, 0}, {4, 0}, {0, -1}, {0, 7}, {0, 8}, {0, 16}, {0, 25}, {0, 27}, {0, 33},
            {0, 34}, {1, 34}, {2, -1}, {3, Integer.MAX_VALUE}, {Integer.MIN_VALUE, 3}};
        for (int[] set : refused) {
            CHECK.no("set(" + set[0] + ", " + set[1] + ")", house.set(set[0], set[1]));
        }
        CHECK.yes("set(0, 24)", house.set(0, 24));
        CHECK.yes("set(1, 24)", house.set(1, 24));
        CHECK.no("a fifth 24 by lay", house.lay(24, 1));
        CHECK.no("a fifth 24 by a RUN", house.set(0, 22));
        CHECK.no("a FOUR of 25, one of which is laid down", house.set(2, 25));
        CHECK.no("a hidden FOUR of 26", house.set(3, 26));
        CHECK.yes("a THREE of 26", house.set(1, 26));
        CHECK.yes("set(3, 33)", house.set(3, 33));
        CHECK.no("a fifth SET", house.set(1, 0));
        CHECK.no("three tiles", house.lay(0, 3));
        CHECK.yes("two tiles", house.lay(0, 2));
        CHECK.due("worth", house.worth(0, true, 0, 0, 0), 560);
        house = desk("0 1 2 3 4 5 6 7 8 9 10 11");
        CHECK.no("a SET with 12 tiles", house.set(0, 18));
        house = desk("0 1 2 3 4 5 6 7 8 9 10");
        CHECK.yes("a SET with 11 tiles", house.set(2, 18));
    }

    private static void clearing() {
        TileHouse house = desk("h0 h1 h2 h3 4 4");
        CHECK.due("worth", house.worth(4, true, 0, 0, 0), 16000);
        house.clear();
        CHECK.due("desk(0) is still that of the latest worth()", house.desk(0), 16000);
        CHECK.due("deskForms() too", house.deskForms(), Script.bits(33, 41));
        CHECK.due("deskWaits()", house.deskWaits(), 0);
        CHECK.due("worth of nothing", house.worth(4, true, 0, 0, 0), 0);
        CHECK.due("desk(3)", house.desk(3), 0);
        CHECK.yes("all tiles are there again", house.lay(0, 4) && house.set(3, 1) && house.set(3, 2));
        CHECK.yes("four more", house.lay(4, 4));
        // The DESK is not the GAME.
        house.deal(1);
        CHECK.due("PHASE", house.count(0), 1);
        CHECK.no("14 tiles lie there", house.lay(9, 1));
    }

    private static void waiting() {
        waits("0 1 2 9 10 11 20 20 20 27 27 31 31", 27, 31);
        waits("r0 9 10 11 20 20 20 27 27 31");
        waits("1 2 3 4 5 6 7 8 9 9 9 18 18", 0, 3, 6);
        waits("0 1 2 3 3 3 3 4 5 9 10 11 27", 27);
        waits("0 0 8 8 9 9 17 17 27 27 31 31 33", 33);
        waits("0 0 0 0 8 8 9 9 17 17 27 27 31");
        waits("0 8 9 17 18 26 27 28 29 30 31 32 33", 0, 8, 9, 17, 18, 26, 27, 28, 29, 30, 31, 32, 33);
        waits("0 0 8 9 17 18 26 27 28 29 30 31 32", 33);
        // All four of 4 lie there: nothing is waited for.
        waits("t4 r0 r9 r18 4");
        waits("t4 r0 r9 r18 5", 5);
        waits("r4 r4 r4 9 10 11 4");
        // 2 1 in the hand and 0 laid down four times: 3 alone.
        waits("t0 r0 9 10 11 20 20 1 2", 3);
        waits("h0 h8 h9 h17 27", 27);
        waits("0 1 2");
        waits("0 1 2 3 4 5 6 7 8 9 9 9 10 10");
    }

    private static void waits(String tiles, int... kinds) {
        CHECK.due("deskWaits() of " + tiles, desk(tiles).deskWaits(), Script.bits(kinds));
    }

    private static void formsOfTheHand() {
        // No FORM but DRAWN; the same OPEN has none.
        worth("0 1 2 9 10 11 21 22 23 6 7 8 27 27", 27, true, 10, of(240, 1, 30), 3);
        worth("r0 9 10 11 21 22 23 6 7 8 27 27", 27, true, 10, of(0, 0, 30));
        worth("1 2 3 10 11 12 21 22 23 5 6 7 14 14", 14, false, 0, of(320, 1, 40), 8);
        worth("r1 10 11 12 21 22 23 5 6 7 14 14", 14, false, 0, of(240, 1, 30), 8);
        // FLAT: not with a PAIR of a DRAGON or of a WIND of one's own, nor by the middle.
        worth("0 1 2 9 10 11 21 22 23 5 6 7 27 27", 21, false, 2 | 1 << 2, of(240, 1, 30), 9);
        worth("0 1 2 9 10 11 21 22 23 5 6 7 27 27", 21, true, 2 | 1 << 2, of(320, 2, 20), 3, 9);
        worth("0 1 2 9 10 11 21 22 23 5 6 7 27 27", 22, false, 2 | 1 << 2, of(0, 0, 40));
        worth("0 1 2 9 10 11 21 22 23 5 6 7 27 27", 2, false, 2 | 1 << 2, of(0, 0, 40));
        worth("0 1 2 9 10 11 21 22 23 5 6 7 27 27", 0, false, 2 | 1 << 2, of(240, 1, 30), 9);
        worth("0 1 2 9 10 11 21 22 23 5 6 7 27 27", 21, false, 0 | 1 << 2, of(0, 0, 40));
        worth("0 1 2 9 10 11 21 22 23 5 6 7 27 27", 21, false, 2 | 0 << 2, of(0, 0, 40));
        worth("0 1 2 9 10 11 21 22 23 5 6 7 33 33", 21, false, 2 | 1 << 2, of(0, 0, 40));
        worth("0 1 2 9 10 11 21 22 23 6 7 8 27 27", 6, false, 2 | 1 << 2, of(0, 0, 40));
        worth("0 1 2 9 10 11 21 22 23 6 7 8 27 27", 8, false, 2 | 1 << 2, of(240, 1, 30), 9);
        worth("0 1 2 9 10 11 21 22 23 6 7 8 27 27", 27, false, 2 | 1 << 2, of(0, 0, 40));
        // Seven PAIRS, alone and with others.
        worth("1 1 4 4 9 9 14 14 20 20 27 27 33 33", 33, false, 0, of(400, 2, 25), 16);
        worth("1 1 4 4 10 10 14 14 20 20 21 21 25 25", 1, false, 0, of(800, 3, 25), 8, 16);
        worth("0 0 8 8 9 9 17 17 18 18 27 27 33 33", 0, false, 0, of(1600, 4, 25), 16, 24);
        worth("0 0 2 2 4 4 5 5 7 7 27 27 33 33", 0, false, 0, of(2000, 5, 25), 16, 26);
        worth("0 0 1 1 3 3 4 4 5 5 7 7 8 8", 0, false, 0, of(4000, 8, 25), 16, 29);
        worth("27 27 28 28 29 29 30 30 31 31 32 32 33 33", 27, false, 0, of(8000, 13, 25), 37);
    }

    private static void formsOfSets() {
        // like RUNS, once and twice; OPEN they do not count.
        worth("0 0 1 1 2 2 12 13 14 23 24 25 31 31", 31, false, 0, of(320, 1, 40), 10);
        worth("0 0 1 1 2 2 12 12 13 13 14 14 31 31", 31, false, 0, of(1280, 3, 40), 28);
        worth("0 0 0 0 1 1 1 1 2 2 2 2 31 31", 31, true, 0, of(4000, 9, 30), 3, 23, 26, 28);
        worth("r0 0 1 2 12 13 14 23 24 25 31 31", 31, false, 0, of(0, 0, 30));
        // DRAGONS and WINDS.
        worth("t31 0 1 2 12 13 14 23 24 25 28 28", 0, false, 0, of(240, 1, 30), 11);
        worth("f32 0 1 2 12 13 14 23 24 25 28 28", 0, false, 0, of(320, 1, 40), 12);
        worth("h33 0 1 2 12 13 14 23 24 25 28 28", 0, false, 0, of(560, 1, 70), 13);
        worth("t28 0 1 2 12 13 14 23 24 25 9 9", 0, false, 1, of(240, 1, 30), 14);
        worth("t28 0 1 2 12 13 14 23 24 25 9 9", 0, false, 1 << 2, of(240, 1, 30), 15);
        worth("t28 0 1 2 12 13 14 23 24 25 9 9", 0, false, 1 | 1 << 2, of(480, 2, 30), 14, 15);
        worth("t28 0 1 2 12 13 14 23 24 25 9 9", 0, false, 0, of(0, 0, 30));
        worth("t30 0 1 2 12 13 14 23 24 25 9 9", 0, false, 3 | 3 << 2, of(480, 2, 30), 14, 15);
        // RUNS of all suits, RUNS from 1, 4, 7.
        worth("3 4 5 12 13 14 21 22 23 0 1 2 31 31", 31, false, 0, of(640, 2, 40), 17);
        worth("r3 12 13 14 21 22 23 0 1 2 31 31", 31, false, 0, of(240, 1, 30), 17);
        worth("9 10 11 12 13 14 15 16 17 0 1 2 31 31", 31, false, 0, of(640, 2, 40), 18);
        worth("r12 9 10 11 15 16 17 0 1 2 31 31", 31, false, 0, of(240, 1, 30), 18);
        // No RUNS, hidden THREES, FOURS, THREES of one number.
        worth("t0 t12 t24 29 29 29 31 31", 31, false, 0, of(640, 2, 40), 19);
        worth("t12 1 1 1 6 6 6 24 24 24 31 31", 31, false, 0, of(2000, 4, 40), 19, 20);
        worth("r12 1 1 1 6 6 6 24 24 24 31 31", 24, true, 0, of(640, 2, 40), 20);
        worth("r12 1 1 1 6 6 6 24 24 24 31 31", 24, false, 0, of(0, 0, 40));
        worth("f1 h6 f24 12 13 14 31 31", 31, false, 0, of(960, 2, 60), 21);
        worth("t4 t13 22 22 22 9 10 11 31 31", 31, false, 0, of(640, 2, 40), 22);
        worth("f4 h13 22 22 22 9 10 11 31 31", 9, false, 0, of(800, 2, 50), 22);
        // ENDS and TERMINALS in each.
        worth("0 1 2 6 7 8 9 10 11 27 27 27 31 31", 0, false, 10, of(640, 2, 40), 23);
        worth("r0 6 7 8 9 10 11 27 27 27 31 31", 9, false, 10, of(240, 1, 30), 23);
        worth("0 1 2 6 7 8 9 10 11 17 17 17 26 26", 26, false, 0, of(1280, 3, 40), 27);
        worth("r0 6 7 8 9 10 11 17 17 17 26 26", 26, false, 0, of(480, 2, 30), 27);
        worth("t0 t8 t27 9 9 9 31 31", 31, false, 10, of(2000, 4, 50), 19, 24);
        worth("t31 t32 33 33 0 1 2 12 13 14", 0, false, 0, of(1920, 4, 30), 11, 12, 25);
        // One suit.
        worth("0 1 2 3 4 5 7 7 7 8 8 27 27 27", 8, true, 10, of(2000, 4, 40), 3, 26);
        worth("r0 3 4 5 7 7 7 8 8 27 27 27", 8, true, 10, of(640, 2, 40), 26);
        worth("0 1 2 3 4 5 6 6 6 7 7 8 8 8", 7, false, 0, of(3000, 6, 50), 29);
        worth("r0 3 4 5 6 6 6 7 7 8 8 8", 7, false, 0, of(2000, 5, 40), 29);
    }

    private static void greatForms() {
        worth("0 8 9 17 18 26 27 28 29 30 31 32 33 33", 5, false, 0, of(0, 0, 0));
        worth("0 8 9 17 18 26 27 28 29 30 31 32 33 33", 0, true, 0, of(8000, 13, 30), 32);
        worth("1 1 1 6 6 6 12 12 12 24 24 24 31 31", 31, false, 0, of(8000, 13, 50), 33);
        worth("1 1 1 6 6 6 12 12 12 24 24 24 31 31", 24, true, 0, of(8000, 13, 40), 33);
        worth("h1 6 6 6 12 12 12 24 24 24 31 31", 24, true, 0, of(8000, 13, 60), 33);
        worth("t31 t32 f33 0 1 2 12 12", 0, false, 0, of(8000, 13, 50), 34);
        worth("t27 t28 t29 30 30 0 1 2", 0, false, 0, of(8000, 13, 40), 35);
        worth("t27 t28 t29 t30 0 0", 0, false, 0, of(8000, 13, 40), 36);
        worth("t27 t28 t29 t30 31 31", 31, false, 0, of(16000, 26, 40), 36, 37);
        worth("27 27 27 28 28 28 29 29 29 30 30 30 31 31", 31, true, 0, of(24000, 39, 60), 33, 36, 37);
        worth("t0 t8 t9 t17 18 18", 18, false, 0, of(8000, 13, 40), 38);
        worth("r19 19 20 21 23 23 23 25 25 32 32 32", 25, false, 0, of(8000, 13, 40), 39);
        worth("19 19 19 19 20 20 20 20 21 21 21 21 25 25", 19, true, 0, of(8000, 13, 40), 39);
        worth("9 9 9 10 11 12 13 14 15 16 17 17 17 9", 9, false, 0, of(8000, 13, 40), 40);
        worth("0 0 0 1 2 3 4 5 6 7 8 8 8 4", 0, true, 0, of(8000, 13, 40), 40);
        worth("r0 0 0 3 4 5 6 7 8 8 8", 0, false, 0, of(0, 0, 0));
        worth("f1 f6 f12 f24 31 31", 31, false, 0, of(8000, 13, 60), 41);
        worth("h1 h6 h12 h24 31 31", 31, false, 0, of(16000, 26, 100), 33, 41);
    }

    private static void toldForms() {
        String plain = "0 1 2 9 10 11 21 22 23 6 7 8 27 27";
        told(plain, 27, false, 1L, 10, of(320, 1, 40), 0);
        told(plain, 27, false, 2L, 10, of(640, 2, 40), 1);
        told(plain, 27, false, 3L, 10, of(640, 2, 40), 1);
        told(plain, 27, false, 7L, 10, of(1280, 3, 40), 1, 2);
        told(plain, 27, false, 4L, 10, of(320, 1, 40), 2);
        told(plain, 27, false, 0xF0L, 10, of(2000, 4, 40), 4, 5, 6, 7);
        told(plain, 27, false, 8L, 10, of(0, 0, 40));
        told(plain, 27, false, ~(0xF7L | 3L << 42), 10, of(0, 0, 40));
        told(plain, 27, true, -1L, 10, of(16000, 26, 30), 42, 43);
        told(plain, 27, true, 1L << 43, 10, of(8000, 13, 30), 43);
        String open = "r0 9 10 11 21 22 23 6 7 8 27 27";
        told(open, 27, true, 7L, 10, of(0, 0, 30));
        told(open, 27, true, 0x17L, 10, of(240, 1, 30), 4);
        told(open, 27, true, 1L << 42, 10, of(8000, 13, 30), 42);
        // Dear tiles: only with a FORM, the lowest six bits, not with GREAT FORMS.
        TileHouse house = desk(plain);
        CHECK.due("no FORM", house.worth(27, false, 0, 10, 5), 0);
        CHECK.due("HAN", house.desk(1), 0);
        CHECK.due("64 dear tiles are none", house.worth(27, false, 1, 10, 64), 320);
        CHECK.due("65 are one", house.worth(27, false, 1, 10, 65), 640);
        CHECK.due("-1 are 63", house.worth(27, false, 1, 10, -1), 8000);
        CHECK.due("HAN", house.desk(1), 64);
        CHECK.due("with HEAVEN none", house.worth(27, true, 1L << 42, 10, 63), 8000);
        CHECK.due("HAN", house.desk(1), 13);
        // The bits of winds above the lowest four are not looked at.
        CHECK.due("winds", house.worth(21, false, 0, -1 << 4 | 10, 0), 240);
    }

    private static void fu() {
        // 20, THREES 2 or 4, of ENDS 4 or 8, FOURS 8 or 16, of ENDS 16 or 32; up to the next 10.
        worth("t4 t31 1 2 3 12 13 14 9 9", 1, false, 0, of(240, 1, 30), 11);
        worth("f4 t31 1 2 3 12 13 14 9 9", 1, false, 0, of(320, 1, 40), 11);
        worth("f0 f31 1 2 3 12 13 14 9 9", 1, false, 0, of(480, 1, 60), 11);
        worth("h4 t31 1 2 3 12 13 14 9 9", 1, false, 0, of(320, 1, 40), 11);
        worth("h0 h31 1 2 3 12 13 14 9 9", 1, false, 0, of(800, 1, 100), 11);
        worth("4 4 4 31 31 31 1 2 3 12 13 14 9 9", 1, false, 0, of(400, 1, 50), 11);
        worth("4 4 4 31 31 31 1 2 3 12 13 14 9 9", 31, false, 0, of(320, 1, 40), 11);
        worth("4 4 4 31 31 31 1 2 3 12 13 14 9 9", 31, true, 0, of(640, 2, 40), 3, 11);
        // PAIRS: of both WINDS 4.
        worth("t31 t12 t13 1 2 3 27 27", 1, false, 0, of(320, 1, 40), 11);
        worth("t31 t12 t15 1 2 3 27 27", 27, false, 0, of(320, 1, 40), 11);
        worth("t31 t0 1 2 3 12 13 14 27 27", 1, false, 0, of(320, 1, 40), 11);
        worth("t31 t4 1 2 3 12 13 14 27 27", 1, false, 0, of(240, 1, 30), 11);
        worth("t31 t0 1 2 3 12 13 14 27 27", 1, false, 10, of(240, 1, 30), 11);
        worth("t31 t0 1 2 3 12 13 14 32 32", 1, false, 10, of(240, 1, 30), 11);
        worth("t31 t0 1 2 3 12 13 14 32 32", 32, false, 10, of(320, 1, 40), 11);
        // Two more by the PAIR, the middle, 3 of 1 2 3, 7 of 7 8 9: 30 become 40.
        worth("31 31 31 32 32 32 10 11 12 33 33 0 1 2", 2, true, 0, of(2000, 5, 50), 3, 11, 12, 25);
        worth("31 31 31 5 5 5 0 1 2 15 16 17 9 9", 2, false, 0, of(400, 1, 50), 11);
        worth("31 31 31 4 5 6 0 1 2 15 16 17 9 9", 0, false, 0, of(320, 1, 40), 11);
        worth("t31 t5 0 1 2 15 16 17 32 32", 2, false, 0, of(240, 1, 30), 11);
        worth("t31 f5 0 1 2 15 16 17 9 9", 0, false, 0, of(320, 1, 40), 11);
        worth("h31 0 1 2 15 16 17 21 22 23 9 9", 15, true, 0, of(960, 2, 60), 3, 11);
        worth("f31 t5 0 1 2 15 16 17 32 32", 0, false, 0, of(320, 1, 40), 11);
        worth("f31 t5 0 1 2 15 16 17 32 32", 1, false, 0, of(400, 1, 50), 11);
        worth("f31 t5 0 1 2 15 16 17 32 32", 2, false, 0, of(400, 1, 50), 11);
        worth("f31 t5 0 1 2 15 16 17 32 32", 15, false, 0, of(400, 1, 50), 11);
        worth("f31 t5 0 1 2 15 16 17 32 32", 17, false, 0, of(320, 1, 40), 11);
        worth("f31 t5 0 1 2 15 16 17 32 32", 32, false, 0, of(400, 1, 50), 11);
        worth("f31 t5 0 1 2 15 16 17 32 32", 0, true, 0, of(400, 1, 50), 11);
    }

    private static void base() {
        TileHouse house = desk("1 1 4 4 9 9 14 14 20 20 27 27 33 33");
        int[] pairs = {400, 800, 1600, 2000, 3000, 3000, 4000, 4000, 4000, 6000, 6000, 8000, 8000};
        for (int dear = 0; dear < pairs.length; dear++) {
            CHECK.due("HAN " + (2 + dear), house.worth(33, false, 0, 0, dear), pairs[dear]);
            CHECK.due("HAN", house.desk(1), 2 + dear);
        }
        house = desk("h0 h31 1 2 3 12 13 14 9 9");
        int[] hundred = {800, 1600, 2000, 2000, 2000, 3000};
        for (int dear = 0; dear < hundred.length; dear++) {
            CHECK.due("100 FU, HAN " + (1 + dear), house.worth(1, false, 0, 0, dear), hundred[dear]);
        }
    }

    private static void ways() {
        ways("0 0 1 1 2 2 12 13 14 23 24 25 31 31", 31, 1);
        ways("0 0 1 1 2 2 12 13 14 23 24 25 31 31", 1, 1);
        ways("0 0 1 1 2 2 12 12 13 13 14 14 31 31", 31, 2);
        ways("0 0 0 1 1 1 2 2 2 12 13 14 31 31", 0, 2);
        ways("1 2 3 3 4 5 12 13 14 23 24 25 31 31", 3, 2);
        ways("1 1 1 2 3 12 13 14 23 24 25 30 30 30", 1, 2);
        ways("1 2 2 2 3 12 13 14 23 24 25 30 30 30", 2, 2);
        ways("r1 1 2 3 12 13 14 23 24 25 30 30", 1, 1);
        ways("0 8 9 17 18 26 27 28 29 30 31 32 33 33", 33, 1);
        ways("1 1 4 4 9 9 14 14 20 20 27 27 33 33", 33, 1);
        ways("0 0 0 0 1 1 1 1 2 2 2 2 3 3", 3, 3);
        ways("0 0 0 0 1 1 1 1 2 2 2 2 31 31", 0, 3);
        ways("0 0 1 1 2 2 3 3 4 4 5 5 6 6", 3, 4);
        ways("0 1 2 9 10 11 21 22 23 6 7 8 27 27", 3, 0);
        ways("0 1 2 9 10 11 21 22 23 6 7 8 27 28", 27, 0);
    }

    private static void ways(String tiles, int kind, int want) {
        TileHouse house = desk(tiles);
        house.worth(kind, false, 0, 10, 0);
        CHECK.due("WAYS of " + tiles + " by " + kind, house.desk(3), want);
    }

    private static void nothing() {
        TileHouse house = desk("0 1 2 9 10 11 21 22 23 6 7 8 27 27");
        CHECK.yes("worth by DRAWN", house.worth(27, true, 0, 10, 0) > 0);
        for (int kind : new int[] {3, -1, 34, Integer.MAX_VALUE, Integer.MIN_VALUE}) {
            CHECK.due("worth(" + kind + ")", house.worth(kind, true, 1, 10, 0), 0);
            for (int what = 0; what < 4; what++) {
                CHECK.due("desk(" + what + ")", house.desk(what), 0);
            }
            CHECK.due("deskForms()", house.deskForms(), 0);
        }
        for (int what : new int[] {-1, 4, Integer.MAX_VALUE, Integer.MIN_VALUE}) {
            CHECK.due("desk(" + what + ")", house.desk(what), -1);
        }
        house = desk("r0 9 10 11 21 22 23 6 7 8 27 27");
        CHECK.due("a WINNER that is laid down", house.worth(1, true, 16, 10, 0), 0);
        CHECK.due("not laid down", house.worth(6, true, 16, 10, 0), 240);
        CHECK.due("13 tiles", desk("0 1 2 9 10 11 21 22 23 6 7 8 27").worth(27, true, 1, 0, 0), 0);
        CHECK.due("a SET and two PAIRS", desk("r0 9 10 11 21 22 23 6 6 8 27 27").worth(27, true, 16, 0, 0), 0);
        CHECK.due("PAIRS beside a SET", desk("r0 9 9 10 10 21 21 6 6 27 27 28").worth(9, true, 16, 0, 0), 0);
        CHECK.due("four of a KIND are no two PAIRS",
            desk("1 1 1 1 9 9 14 14 20 20 27 27 33 33").worth(33, true, 0, 0, 0), 0);
    }
}
