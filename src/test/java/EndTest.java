/** Promise 12, hands without a winner, and what comes THEN (Terms 3; promises 4, 17, 20). */
public final class EndTest {
    private static final Check CHECK = new Check("EndTest");

    static final String ONE_WAITS = "deal2 d7 p d25 p d3 p d15 p d22 p d10 p d0 p d9 p d18 p d16 p "
        + "d5 p d1 p d30 p d33 p d20 p d10 p d2 p d4 p d7 p d11 p d33 p d8 p d14 p d8 p d8 p d22 p d15 p d28 "
        + "p d2 p d14 p d18 p d9 p d11 p d0 p d32 p d6 p d3 p d17 p d4 p d6 p d15 p d20 p d6 p d33 p d6 p "
        + "d13 p d32 p d32 p d5 p d29 p d10 p d25 p d0 p d17 p d26 p d31 p d1 p d26 p d30 p d1 p d29 p d24 p "
        + "d26 p d32 p d31 p d27 p d1 p d22 p d4 p d13 p ";
    static final String TWO_WAIT = "deal-1 d32 p d25 p d19 p d8 p d1 p d33 p d7 p d31 p d3 p d5 p "
        + "d15 p d22 p d26 p d32 p d28 p d26 p d6 p d8 p d32 p d4 p d13 p d2 p d13 p d16 p d33 p d9 p d32 p "
        + "d20 p d27 p d30 p d9 p d26 p d24 p d8 p d25 p d0 p d14 p d9 p d22 p d17 p d18 p d17 p d21 p d33 p "
        + "d8 p d7 p b5 p d28 p d2 p d7 p d1 p d12 p d12 p d18 p d29 p d6 p d0 p d18 p d20 p d22 p d24 p d13 "
        + "p d0 p d24 p d27 p b4 p d26 p d29 p d4 p d30 p ";
    static final String THREE_WAIT = "deal26 d29 p d23 p d9 p d1 p d32 p d3 p d6 p d28 p d11 p d26 p d20 p "
        + "d3 p d2 p d27 p d23 p b16 p d7 p d15 p d11 p d7 p d3 p d0 p d24 p d32 p d16 p d23 p "
        + "d20 p d33 p d3 p d18 p d9 p d1 p d31 p d31 p d32 p d1 p d12 p d15 p d2 p d4 p d33 p "
        + "d4 p d2 p d13 p d20 p d2 p d1 p d9 p d31 p b9 p d31 p d28 p d10 p d15 p d30 p d29 p "
        + "d22 p d33 p d32 p d11 p d27 p d4 p d14 p d15 p d11 p d21 p d12 p d0 p d19 p d30 p ";
    static final String FOUR_WAIT = "deal-1 d13 p d33 p d19 p d27 p d14 p d25 p d7 p d8 p d32 p d2 p d12 p "
        + "d31 p d3 p d32 p d32 p d0 p d8 p d4 p d15 p d4 p d24 p d9 p d28 p d26 p d27 p d9 p "
        + "d25 p d6 p d33 p d30 p d10 p d26 p d6 p d5 p d5 p d27 p d1 p d1 p d32 p d29 p d18 p "
        + "d2 p b23 p d6 p d2 p d21 p d11 p d28 p d22 p d5 p d1 p d33 p d0 p d18 p d29 p d20 p "
        + "b12 p d13 p d20 p d22 p d13 p b17 p d0 p d11 p d27 p d3 p d26 p d17 p d4 p d30 p ";
    static final String NONE_WAITS = "deal14 d18 p d31 p d0 p d29 p d5 p d13 p d20 p d12 p d0 p d27 p d0 p "
        + "d26 p d25 p d18 p d30 p d19 p d28 p d2 p d9 p d6 p d29 p d19 p d24 p d31 p d1 p d8 "
        + "p d8 p d23 p d2 p d21 p d28 p d2 p d7 p d10 p d24 p d13 p d30 p d16 p d9 p d9 p d15 "
        + "p d16 p d15 p d11 p d0 p d7 p d20 p d16 p d22 p d31 p d22 p d27 p d28 p d4 p d12 p "
        + "d3 p d16 p d13 p d8 p d1 p d32 p d15 p d11 p d2 p d19 p d8 p d1 p d32 p d19 p d31 p ";
    static final String DEALER_WAITS = "deal3 d15 p d19 p d4 p d9 p d29 p d12 p d15 p d28 p d8 p d31 p d24 p "
        + "d26 p d21 p d22 p d20 p d8 p d33 p d10 p d29 p d27 p h17 d18 p d14 p d9 p d20 p d27 "
        + "p d2 p d6 p d31 p d32 p d0 p d33 p d6 p d5 p d5 p d9 p d4 p d2 p d19 p d26 p d29 p "
        + "d10 p d9 p d7 p d8 p d30 p d23 p d15 p d27 p d16 p d10 p d5 p d33 p b21 p d6 p d20 "
        + "p d27 p d7 p d0 p d23 p d28 p d16 p d16 p d1 p d3 p d5 p d21 p d31 p d31 p d11 p ";

    public static void main(String[] args) {
        nine();
        withoutWinner();
        rounds();
        roundsWithBets();
        broke();
        CHECK.end();
    }

    private static void nine() {
        // The DEALER has 0 8 9 17 18 28 29 31 33.
        Script script = new Script(CHECK, "nine").play("!n deal88784761661471898 n").count(0, 0).count(1, -1);
        script.count(2, 0).count(3, 0).count(4, 1).count(10, 1).count(11, 0).count(12, -1);
        script.points(25000, 25000, 25000, 25000).waits(0).play("!n deal88784761661471898 n").count(4, 2);
        new Script(CHECK, "eight").play("deal1 !n");
        new Script(CHECK, "1 gives up").play("deal67535213139226397 d8 !n p n").count(2, 0).count(4, 1);
        new Script(CHECK, "3 gives up").play("deal156703826569985 d13 p d6 p d12 p n").count(2, 0);
        new Script(CHECK, "a SET was claimed").play("deal-8645479661603552957 d9 t1 d4 p !n");
        Script later = new Script(CHECK, "not its first").play("deal88784761661471898 d19 p");
        for (int i = 0; i < 3; i++) {
            later.play("d" + later.house.count(12) + " p");
        }
        later.count(1, 0).play("!n");
    }

    private static void withoutWinner() {
        Script script = new Script(CHECK, "one waits").play(ONE_WAITS).count(0, 0).count(11, 0).count(6, 0);
        script.points(24000, 24000, 24000, 28000).waits(3, 20).count(2, 1).count(4, 1).count(10, 1);
        // 1 and 2 bet and wait, the DEALER does not: BETS stay on the table.
        script = new Script(CHECK, "two wait").play(TWO_WAIT).points(23500, 25500, 25500, 23500);
        script.count(5, 2).count(2, 1).count(4, 1).seat(1, 1, 1).seat(2, 1, 1);
        // The first to win gets them.
        script.play("deal-953511006751253465 d22 c2 p").won(0, 2, 1, 1600, 4, 25, 8700, 22);
        script.points(23500, 18800, 34200, 23500).count(5, 0).count(4, 0).count(2, 2);
        // All but 2 wait, 1 and 3 with a BET; the DEALER stays.
        script = new Script(CHECK, "three wait").play(THREE_WAIT).points(26000, 25000, 22000, 25000);
        script.count(5, 2).count(2, 0).count(4, 1);
        // 3 let something go with its BET: neither is so in the next hand.
        script.seat(3, 1, 1).seat(3, 2, 1).play("deal1").seat(3, 1, 0).seat(3, 2, 0).count(5, 2);
        script = new Script(CHECK, "all wait").play(FOUR_WAIT).points(24000, 24000, 24000, 25000);
        script.count(5, 3).count(2, 0).count(4, 1);
        script = new Script(CHECK, "nobody waits").play(NONE_WAITS).points(25000, 25000, 25000, 25000);
        script.count(2, 1).count(4, 1);
        script = new Script(CHECK, "the DEALER alone waits").play(DEALER_WAITS);
        script.points(27000, 24000, 24000, 24000).count(5, 1).count(2, 0).count(4, 1);
    }

    /** Each DEALER loses at once to the next SEAT, eight times. */
    private static void rounds() {
        Script script = new Script(CHECK, "rounds");
        for (int i = 0; i < 8; i++) {
            int next = (i + 1) % 4;
            script.count(2, i % 4).count(3, i / 4).count(9, 0).count(10, i);
            script.play("deal-953511006751253465").seat(next, 3, 1).play("d22 c" + next + " p").count(4, 0);
        }
        // DEALER and ROUND stay as the ROUND would be 2.
        script.count(9, 1).count(10, 8).count(2, 3).count(3, 1).count(4, 0).play("!deal1");
        script.points(25000, 25000, 25000, 25000).seat(3, 3, 0).seat(0, 3, 1);
    }

    private static void roundsWithBets() {
        Script script = new Script(CHECK, "rounds with BETS");
        for (int i = 0; i < 7; i++) {
            script.play("deal-953511006751253465 d22 c" + (i + 1) % 4 + " p");
        }
        // 0 was DEALER twice and won once, 3 was DEALER once and won twice.
        script.points(18600, 25000, 25000, 31400).count(2, 3).count(3, 1).play(TWO_WAIT);
        // 0 and 1 have bet and wait; 3 has the most, 29,900, and gets the two BETS.
        script.count(9, 1).count(5, 0).points(19100, 25500, 23500, 31900).count(4, 0);
    }

    private static void broke() {
        // HEAVEN takes 16,000 from each other SEAT, and 100 more when STAYS is 1.
        Script script = new Script(CHECK, "broke").play("deal78981 w").points(73000, 9000, 9000, 9000);
        script.count(9, 0).play("deal78981 w").points(121300, -7100, -7100, -7100).count(9, 1);
        script.count(4, 1).count(2, 0).count(10, 2).count(11, 1);
        // With 0 POINTS the GAME goes on.
        script = new Script(CHECK, "0 POINTS").play("deal78981 w deal33705604014929126 n");
        script.play("deal-953511006751253465 d22 c1 p deal185104 d6 p w").points(58000, 0, 41000, 1000);
        script.count(9, 0).play("deal1");
    }
}
