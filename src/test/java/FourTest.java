/** Promises 8 and 9: FOURS out of the hand, tiles added to THREES, robbing, draws and SIGNS. */
public final class FourTest {
    private static final Check CHECK = new Check("FourTest");

    private static final String ROBBED = "deal8388691691443010381 d8 p d6 p d3 p d14 t2 d28 p d15 p "
        + "d9 p d1 p d29 p d25 t0 d29 p d22 p a14 ";
    private static final String FOUR_FOURS = "deal1480192573074383775 d12 p d30 p d32 t3 d25 p d3 p "
        + "d27 p d30 p d7 p d16 p d33 p d28 p d13 p d33 p d28 p d30 p a32 p d0 p d9 p d3 p d4 p d10 "
        + "p d8 f1 d16 p h18 d16 p d22 p d9 p d12 p d19 p h29 ";

    public static void main(String[] args) {
        hides();
        adds();
        robbed();
        notRobbed();
        fourFours();
        lastTiles();
        refused();
        CHECK.end();
    }

    private static void hides() {
        // The DEALER has four of 21.
        Script script = new Script(CHECK, "hide").play("!h21 deal-6021044661905231204");
        script.hand(0, 21, 4).play("!h12 !h34 !h-1 !h2147483647 !a21 !a-1 !a34 h21");
        script.count(0, 1).count(1, 0).count(6, 68).count(7, 1).count(8, 2);
        script.count(12, script.house.wall(122)).laid(0, 0, 3, 21).hand(0, 21, 0);
        script.seat(0, 5, 1).seat(0, 6, 0).play("!h21 !n d25 !h21");
        // A BET behind a FOUR is not the FIRST; with it no FOUR is made.
        script = new Script(CHECK, "a BET behind it").play("deal-6021044661905231204 h21 b25");
        script.seat(0, 1, 1).play("p d19 p d22 p d6 p").hand(0, 30, 3).play("!h30 !d12 w");
        script.forms(0, 0, 2, 3).won(0, 0, -1, 1600, 3, 50, 10600, 30);
        script.points(34600, 21800, 21800, 21800);
    }

    private static void adds() {
        // 1 claimed 33 and draws the fourth.
        Script script = new Script(CHECK, "add").play("!a33 deal14 !a33 d33 t1 !a33 d29 p d5 p d31 p d30 p");
        script.hand(1, 33, 1).laid(1, 0, 1, 33).play("!a25 !a2 !h33 a33");
        script.count(0, 3).count(1, 1).count(12, 33).count(6, 65).count(7, 0).count(8, 1);
        script.laid(1, 0, 2, 33).hand(1, 33, 0).seat(1, 5, 1).seat(1, 6, 1);
        script.play("!d2 !a33 !w !n !t2 !f2 !r2.31 !deal1 !c0 !c1 !c2 !c3 !c4 !c-1 p");
        script.count(0, 1).count(1, 1).count(12, script.house.wall(122)).count(6, 64);
        script.count(7, 1).count(8, 2).laid(1, 0, 2, 33);
    }

    /** 0 waits for 11 14 with an OPEN hand without any FORM but ROBBED. */
    private static void robbed() {
        Script script = new Script(CHECK, "robbed").play(ROBBED).waits(0, 11, 14);
        script.play("!c1 !c2 !c3 c0 !c0").seat(0, 7, 1).count(0, 3).play("!t0 p");
        script.count(0, 0).count(11, 1).won(0, 0, 2, 240, 1, 30, 1500, 14).forms(0, 7);
        script.points(26500, 25000, 23500, 25000).laid(2, 0, 2, 14).hand(0, 14, 0);
        script.count(7, 0).count(8, 1).count(6, 59).seat(0, 7, 1).won(1, -1, -1, -1);
        // AT ONCE lasts: a FOUR that is robbed is not made.
        script = new Script(CHECK, "robbed at once").play("deal-3310977022257032615 d11 t1 d14 p d12 p "
            + "d13 p d18 p d25 p d2 p d26 p d8 p d17 p d9 p b0 p d26 p a11 c3 p").forms(0, 0, 2, 7);
        script.won(0, 3, 1, 2000, 4, 40, 9000, 11).points(25000, 17000, 25000, 33000);
    }

    private static void notRobbed() {
        // 0 lets the tile go; it is not worth anything by a discard before its next draw.
        Script script = new Script(CHECK, "not robbed").play(ROBBED).seat(0, 2, 0).play("p");
        script.seat(0, 2, 1).seat(1, 2, 0).seat(3, 2, 0).count(7, 1).count(12, script.house.wall(122));
        // With a BET it has let go to the hand's end.
        script = new Script(CHECK, "let go with a BET").play("deal-152562174784110982 d18 p d7 p b31 p "
            + "d13 t0 d5 p d21 p d25 p d26 p a13 p").seat(2, 2, 1).seat(2, 1, 2);
        script.play("d26 p d0 p").seat(2, 2, 1).count(1, 2);
    }

    private static void fourFours() {
        Script script = new Script(CHECK, "four FOURS").play(FOUR_FOURS).count(7, 4).count(8, 5);
        script.count(12, script.house.wall(125)).laid(3, 0, 2, 32).laid(3, 1, 3, 29);
        script.laid(1, 0, 2, 8).laid(2, 0, 3, 18).seat(2, 6, 0).count(6, 40);
    }

    private static void lastTiles() {
        // One tile is left as 2 adds 0: behind the FOUR none is.
        Script script = new Script(CHECK, "the last tile").play("deal-1098931237709634374 d22 p d29 p d16 "
            + "p d13 p d2 f3 d3 p d19 p d18 p d8 p d31 p d13 p d33 p d14 p d4 p d27 p d8 p d30 p d11 "
            + "p d28 p d32 p d12 p d7 p d5 p d5 p d29 p d23 p d32 p d28 p d18 p d29 p d31 p d26 p d9 "
            + "p d22 p d7 p d18 p d32 p d27 p d17 p d15 p d17 p d6 p d13 p d30 p d30 p d14 p d31 p "
            + "d3 p d3 p d28 p h10 d20 p d0 t2 d5 p d24 p d19 p d9 p d6 p d33 p d20 p d9 p d3 p d9 "
            + "p d23 p d7 p d17 p d23 p d30 p d19 p").count(6, 1).play("a0 p").count(6, 0).count(7, 3);
        script.play("d31 !t3 p").count(0, 0).count(11, 0).count(10, 1);
        // A FOUR is not made when no tile is left: 0 draws the last one.
        script = new Script(CHECK, "BEHIND A FOUR, none left").play("deal3905920725359969982 d28 p d25 "
            + "p d28 p d8 p d0 p d31 p d13 p d27 p d24 p d0 p d8 p d29 p d17 p d9 p d33 p d16 t2 d31 "
            + "p d26 p d7 p d29 p d7 p d20 p d24 p d27 p d15 p d33 p d32 p d33 p d22 p d31 p d31 p d7 "
            + "p d10 p d18 p d4 p d28 p d10 p d5 p d32 p d17 p d19 p d12 p d6 p d9 p d1 p d32 p d27 p "
            + "d5 p d22 p d2 p d18 p d23 t0 d9 p d2 p d26 p d13 p d25 p d23 p d15 p d0 p d20 p d21 p "
            + "d14 p d17 p d3 p d12 p d24 p d6 p d22 p d18 p").count(6, 1).play("h30").count(6, 0);
        // Nothing but BEHIND A FOUR counts: it is no LAST DRAW.
        script.play("w").forms(0, 6).won(0, 2, -1, 480, 1, 60, 2000, 2);
        script.points(24000, 24500, 27000, 24500);
    }

    private static void refused() {
        new Script(CHECK, "hide behind a claim").play("deal7594955257852190972 d33 t1 !h18");
        new Script(CHECK, "add behind a claim").play("deal4384980734555501908 d8 t3 !a8");
        new Script(CHECK, "hide with a BET").play("deal-5348581569865728475 d5 p d13 p d15 p d23 p d27 p "
            + "b33 p d2 t3 d32 p d12 p !h16");
        new Script(CHECK, "a fifth, hidden").play("deal4444957694299120813 d22 p d1 p d21 p d25 p d28 t2 "
            + "d18 p d24 p d18 p d8 p d20 p d14 p d2 p d22 p d9 p h11 d17 p d18 p d8 p d27 p d22 p d33 "
            + "t1 d29 p d29 p d1 p d8 p a33 p d10 p d30 p d9 p d31 p d30 p d7 f1 d21 p d5 p d32 p d21 "
            + "p d9 p d10 p d3 t0 d32 p d30 p d12 p d24 p d14 p d19 p d19 p h6 d17 p d14 p d28 p d5 p "
            + "d20 p d19 p d1 p d10 p d31 t0 d21 p d13 p d32 p d25 p d26 p d25 p !h23");
        new Script(CHECK, "a fifth, added").play("deal1675817529717765701 d32 p d26 p d7 p d29 f0 d22 p "
            + "d8 p d4 p d9 p d6 p d33 p d6 p d18 p d19 p d16 p d31 t3 d15 r0.14 d22 p d1 p d1 p d11 p "
            + "d27 p d33 p d22 p d2 p d10 p d19 p d17 p d30 p d2 p d24 p d10 p d33 p d26 t3 d32 p d18 "
            + "p d8 p d25 p d7 p d3 p d4 p h20 d7 p d30 p d13 p d21 p d33 p d5 f2 d32 p d0 f0 d8 p d23 "
            + "p d14 p !a31");
        new Script(CHECK, "hide, no tile left").play("deal13 d33 p d10 p d31 p d1 p d28 p d2 p d25 p d30 p "
            + "d24 p d12 p d1 p d29 p d28 p d20 p d2 p d9 p d0 p d19 p d12 p d6 p d2 p d9 p d5 p d15 p "
            + "d13 p d31 p d4 p d6 p d31 p d17 p d4 p d26 r0.24 d8 p d28 p d31 p d32 p d17 p d14 p d9 "
            + "p d3 p d14 p d33 p d10 p d17 p d15 p d0 p d0 p d19 p d3 p d0 p d8 p d22 p d25 p d5 p "
            + "d20 p d23 p d18 p d9 p d23 p d18 p d16 p d10 p d18 p d32 p d20 p d33 p d28 p d4 p d29 p "
            + "d4 p !h7");
        new Script(CHECK, "add, no tile left").play("deal13 d8 p d12 p d4 p d17 p d28 p d33 p d5 p d26 p "
            + "d29 p d19 p d28 p d30 p d25 p d17 p d31 p d22 p d3 p d2 p d7 p d15 p d33 p d26 p d9 p "
            + "d6 p d17 p d9 p d25 p d1 p d31 p d31 p d31 p d32 p d32 p d2 p d4 p d29 p d22 p d23 t3 "
            + "d19 p d32 p d28 p d8 p d13 p d29 p d15 p d17 p d3 p d25 p d25 p d26 p d9 p d13 p d20 p "
            + "d13 p d12 p d26 p d5 p d30 p d4 p d20 p d22 p d10 p d8 p d11 p d0 p d0 p d18 p d28 p "
            + "d18 p d4 p !a23");
    }
}
