/** Promises 5, 6 and 7: SETS made with a discard. */
public final class ClaimTest {
    private static final Check CHECK = new Check("ClaimTest");

    /** A hand in which all 70 tiles are drawn and nothing is claimed, up to the last discard. */
    static final String TO_LAST_DISCARD = "deal34 d15 p d16 p d8 p d24 p d19 p d6 p d13 p d10 p "
        + "d22 p d32 p d19 p d12 p d5 p d3 p d15 p d10 p d0 p d9 p d6 p d24 p d31 p d1 p d9 p d21 p "
        + "d14 p d2 p d4 p d14 p d28 p d17 p d25 p d30 p d8 p d10 p d23 p d23 p d4 p d24 p d26 p "
        + "d11 p d7 p d5 p d28 p d13 p d2 p d22 p d24 p d19 p d26 p d15 p d9 p d21 p d1 p d30 p "
        + "d18 p d9 p d17 p d31 p d22 p d20 p d4 p d21 p d29 p d17 p d32 p d28 p d16 p d1 p d30 p ";

    public static void main(String[] args) {
        runs();
        nothingToDiscardThen();
        threes();
        fours();
        fifthFour();
        noTileLeft();
        somebodyWins();
        withBet();
        CHECK.end();
    }

    private static void runs() {
        // 0 throws 4; 1 has 5 6 (and 0 1, 7), 2 has 5 but not 6 nor 3.
        Script script = new Script(CHECK, "run").play("!r1.4 deal15 !r1.4 d4");
        script.play("!r1.2 !r1.3 !r1.5 !r1.0 !r1.-1 !r1.34 !r1.27 !r1.7 !r1.8 !r1.2147483647");
        script.play("!r1.-2147483648 !r0.4 !r2.4 !r3.4 !r4.4 !r-1.4");
        script.play("r1.4").count(0, 1).count(1, 1).count(12, -1).count(6, 69).count(7, 0);
        script.laid(1, 0, 0, 4).seat(1, 5, 1).seat(1, 6, 1).hand(1, 4, 0).hand(1, 5, 0);
        script.hand(1, 6, 0).hand(1, 7, 1).seat(0, 4, 1).waits(1);
        script.play("!r1.4 !r2.4 !p");
        // 2 has the others, but it is not the next SEAT.
        new Script(CHECK, "not the next").play("deal0 d18").hand(2, 19, 1).hand(2, 20, 1).play("!r2.18");
        new Script(CHECK, "not the next either").play("deal1 d26").hand(2, 24, 1).hand(2, 25, 1).play("!r2.24");
        // 8 0 1 is no RUN: 7 8 9 of a suit and the next suit are no neighbours.
        new Script(CHECK, "over the end").play("deal7 d9 p d33 p d8 !r3.7 !r3.8 r3.6").laid(3, 0, 0, 6);
    }

    private static void nothingToDiscardThen() {
        // 3 has 15 16 17 17 and three SETS: with 15 16 and the claimed 17 both others are 17.
        new Script(CHECK, "nothing to discard").play("deal2268632290617878063 d23 p d27 p d24 p d15 "
            + "p d29 p d31 p d7 t3 d20 p d15 p d31 p d13 p d8 p d32 p d10 p d9 p d26 p d16 p d32 p "
            + "d1 r3.1 d29 p d27 p d11 p d0 p d11 p d29 p d14 p d5 p d9 p d10 p d8 t0 d2 p d3 p d12 "
            + "p d13 p d26 p d18 t2 d2 p d33 p d30 p d29 p d9 p d25 p d16 p d13 p d19 t3 d20 p d12 "
            + "p d22 p d18 p d32 p d3 p d14 p d21 p d5 p d33 p d10 p d14 p d17 p d24 p d27 p d5 p "
            + "d0 p d27 p d1 p d17").hand(3, 15, 1).hand(3, 16, 1).hand(3, 17, 2).seat(3, 5, 3)
            .play("!r3.15 t3").hand(3, 15, 1).hand(3, 16, 1).seat(3, 5, 4).play("!d17 d15");
    }

    private static void threes() {
        // 0 throws 33, 1 has two of it; 17 goes to 2 over the head of 1, which has one.
        new Script(CHECK, "three").play("!t1 deal14 !t1 d33 !t0 !t2 !t3 !t4 !t-1 !f1 t1")
            .count(0, 1).count(1, 1).count(12, -1).laid(1, 0, 1, 33).hand(1, 33, 0).play("!t1");
        new Script(CHECK, "three over a head").play("deal25 d17 !t1 !t3 t2").count(1, 2)
            .seat(2, 6, 1).seat(1, 6, 0).play("d25").count(1, 2).play("r3.24").count(1, 3);
    }

    private static void fours() {
        // 0 throws 15, 3 has three of it and draws place 122.
        Script script = new Script(CHECK, "four").play("!f3 deal614962465766831483 !f3 d15");
        script.play("!f0 !f1 !f2 !f4 !f-1 f3").count(0, 1).count(1, 3).count(7, 1).count(8, 2);
        script.count(6, 68).count(12, script.house.wall(122)).laid(3, 0, 2, 15).hand(3, 15, 0);
        script.seat(3, 6, 1).play("d27 p").count(12, script.house.wall(53)).count(6, 67);
        script.play("d5 p d20 p d16 f3").count(7, 2).count(12, script.house.wall(123));
        script.play("d31 p d5 p d32 f0").count(7, 3).count(12, script.house.wall(124)).count(8, 4);
        // The same discards can be threes.
        new Script(CHECK, "three of three").play("deal614962465766831483 d15 t3").hand(3, 15, 1)
            .laid(3, 0, 1, 15).count(7, 0).play("!d15 !a15");
    }

    private static void fifthFour() {
        new Script(CHECK, "a fifth FOUR").play("deal-7558694003251052115 d3 r1.1 d28 p d16 p d29 p d30 p "
            + "d14 p d25 p d2 p d1 p d33 p d9 f3 d4 p d16 p d20 p d18 t1 d15 p d3 p d7 p d8 f3 d32 t0 "
            + "d7 p d25 p d22 p d6 p d22 p d4 p d5 p d20 p d25 p d1 p d11 p d1 p d4 p d24 p d7 p d22 p "
            + "d20 p d0 f2 d28 p d10 p d29 p d10 p d15 p d6 p d14 p d29 p d33 p d13 p d6 p d27 t0 d28 "
            + "p d3 p d13 p d16 p d17 f1 d31 !f2")
            .count(7, 4).hand(2, 31, 3).play("t2");
    }

    private static void noTileLeft() {
        Script script = new Script(CHECK, "no tile left").play(TO_LAST_DISCARD);
        script.count(6, 0).count(0, 1).count(1, 1);
        // SEAT 3 has 5 5, SEAT 0 has 3 3 and waits for it, SEAT 2 has neither 1 2 nor 4 5.
        script.play("!h0 d3 !t0 !f0 !r2.3 !r2.1 !t3");
    }

    private static void somebodyWins() {
        // 1 and 3 wait for the 19 of 0; when 3 says so nobody takes it for a SET.
        new Script(CHECK, "somebody wins").play("deal8190872610450340177 d26 p d30 p d8 p d8 p d15 p "
            + "d14 p d33 p d28 p d16 p d12 p d16 p d14 p d19 c3 !r1.19 !t1 !f1 !t2 !t3").hand(1, 20, 1)
            .hand(1, 21, 1);
    }

    private static void withBet() {
        // 0 bets with its first discard; 2 takes it. Then 0 may claim nothing.
        Script script = new Script(CHECK, "a BET that is claimed").play("deal-5723081710118097238 b28");
        script.points(25000, 25000, 25000, 25000).count(5, 0).seat(0, 1, 2);
        script.play("t2").points(24000, 25000, 25000, 25000).count(5, 1).seat(0, 1, 2);
        script.play("d3 !t0 p d14 !t0");
    }
}
