/** Terms 3, a test for each sentence with an edge about paying, hands without a winner, and THEN. */
public final class EndEdgeTest {
    private static final Check CHECK = new Check("EndEdgeTest");
    /** The next SEAT (#) wins 1,000 from the DEALER by its first discard. */
    private static final String NEXT_WINS = "deal325179 d5 c# p ";
    /** The DEALER (#) wins 1,500 from the next SEAT. */
    private static final String DEALER_WINS = "deal6036871744312458457 d11 p d19 c# p ";
    private static final String THREE_WIN = "deal59379 d0 p d1 p d25 p d10 p d21 p d27 p d1 p d2 p d25 p d2 p d13 p x1 "
        + "d23 t3 d17 p x1 d8 p x1 d20 p d30 p x1 d25 p d8 p x1 d16 p b18 p d27 p x1 d28 p x1 d21 p d31 t3 d33 p x1 d19 p "
        + "x2 d11 p b20 p x2 d22 p x3 d15 ";
    private static final String DEALER_AND_ANOTHER_WIN = "deal49769 d26 p d33 p d33 p d6 p d22 p d30 p x1 d10 p d30 p d21 "
        + "p d19 p d24 p b6 p d6 p d31 p d9 t2 d7 p b29 p x1 d2 ";

    public static void main(String[] args) {
        fourTimesUpToTheNextHundred();
        sixTimesToTheDealer();
        byADraw();
        byADrawOfTheDealer();
        threeHundredForEachOfStays();
        oneHundredForEachOfStays();
        severalAreAllPaid();
        betsGoToTheFirst();
        withoutAWinner();
        dealerStaysIfItWon();
        dealerStaysIfItWonToo();
        dealerStaysIfItWaited();
        dealerStaysIfGivenUp();
        dealerGoesOn();
        roundIsOneMore();
        fewerThanZeroPoints();
        zeroPoints();
        roundWouldBeTwo();
        lastDealerStays();
        betsAtTheEnd();
        theLowestOfSeveral();
        phaseZero();
        CHECK.end();
    }

    private static Script script(String name) {
        return new Script(CHECK, name);
    }

    private static String by(String calls, int seat) {
        return calls.replace("#", Integer.toString(seat));
    }

    /** The DEALER is 3 and the ROUND 1: 24,000, 25,000, 25,000, 26,000 POINTS. */
    private static Script lastHand(String name) {
        Script script = script(name);
        for (int i = 1; i <= 7; i++) {
            script.play(by(NEXT_WINS, i % 4));
        }
        return script.count(2, 3).count(3, 1).count(4, 0).count(9, 0).points(24000, 25000, 25000, 26000);
    }

    /** "that SEAT pays 4 times it .., up to the next 100": 960, 1,280, and 1,600, which it is. */
    private static void fourTimesUpToTheNextHundred() {
        script("960").play(by(NEXT_WINS, 1)).won(0, 1, 0, 240, 1, 30, 1000, 5).points(24000, 26000, 25000, 25000);
        script("1,280").play("deal102242 d10 c1 p").won(0, 1, 0, 320, 1, 40, 1300, 10);
        script("1,600").play("deal1030991 d29 c1 p").won(0, 1, 0, 400, 2, 25, 1600, 29);
    }

    /** "(6 times to the DEALER)": 1,440, and 9,600, which it is. */
    private static void sixTimesToTheDealer() {
        script("1,440").play(by(DEALER_WINS, 0)).won(0, 0, 1, 240, 1, 30, 1500, 19)
            .points(26500, 23500, 25000, 25000);
        script("9,600").play("deal33172 d19 p d30 p d10 p d19 p d11 p d17 c0 p").won(0, 0, 1, 1600, 4, 25, 9600, 17);
    }

    /** "each pays it (twice .. as the DEALER), up to the next 100": 640 and 1,280; 2,000 and 4,000. */
    private static void byADraw() {
        script("640 and 1,280").play("deal669692 d14 t2 d0 p w").won(0, 3, -1, 640, 2, 40, 2700, 24)
            .points(23700, 24300, 24300, 27700);
        script("3,000 and 6,000").play("deal437260 x69 w").won(0, 1, -1, 3000, 6, 25, 12000, 11)
            .points(19000, 37000, 22000, 22000);
    }

    /** "(twice to the DEALER ..)": 480 of each. */
    private static void byADrawOfTheDealer() {
        script("480").play("deal136776 x68 w").won(0, 0, -1, 240, 1, 30, 1500, 4).points(26500, 24500, 24500, 24500);
    }

    /** "and 300 for each of STAYS": 0, 1, 2 of them, to the DEALER or another. */
    private static void threeHundredForEachOfStays() {
        script("STAYS 1").play("deal63 n " + by(NEXT_WINS, 1)).won(0, 1, 0, 240, 1, 30, 1300, 5);
        script("STAYS 2").play("deal63 n deal63 n " + by(NEXT_WINS, 1)).won(0, 1, 0, 240, 1, 30, 1600, 5);
        script("STAYS 1, the DEALER").play("deal63 n " + by(DEALER_WINS, 0)).won(0, 0, 1, 240, 1, 30, 1800, 19);
    }

    /** "and 100 for each of STAYS", from each. */
    private static void oneHundredForEachOfStays() {
        script("STAYS 2, a draw").play("deal63 n deal63 n deal669692 d14 t2 d0 p w")
            .won(0, 3, -1, 640, 2, 40, 3300, 24)
            .points(23500, 24100, 24100, 28300);
    }

    /** "Several that win by one tile are all paid (STAYS: to the first of them behind who pays)". */
    private static void severalAreAllPaid() {
        // The order in which they say so does not matter.
        Script script = script("three win").play(THREE_WIN + "c3 c1 c2 p").count(11, 3)
            .won(0, 1, 0, 800, 3, 25, 5200, 15);
        script.won(1, 2, 0, 640, 2, 40, 2600, 15).won(2, 3, 0, 240, 1, 30, 1000, 15).won(3, -1, -1).forms(3);
        script.forms(0, 0, 16).forms(1, 0, 10).forms(2, 11).points(18200, 29200, 26600, 26000).count(4, 0);
        script("three win, STAYS 1").play("deal63 n " + THREE_WIN + "c1 c2 c3 p").won(0, 1, 0, 800, 3, 25, 5500, 15)
            .won(1, 2, 0, 640, 2, 40, 2600, 15).won(2, 3, 0, 240, 1, 30, 1000, 15);
        script("two of three win, STAYS 1").play("deal63 n " + THREE_WIN + "c3 c2 p").count(11, 2)
            .won(0, 2, 0, 640, 2, 40, 4900, 15).won(1, 3, 0, 240, 1, 30, 1000, 15).seat(1, 7, 0);
    }

    /** "BETS go to the first": to the first winner, who paid or who bet does not matter. */
    private static void betsGoToTheFirst() {
        script("two BETS").play(THREE_WIN).count(5, 2).play("c2 c3 p").won(0, 2, 0, 640, 2, 40, 4600, 15).count(5, 0);
        script("two BETS, the last alone").play(THREE_WIN + "c3 p").won(0, 3, 0, 240, 1, 30, 3000, 15).count(5, 0);
        script("BETS and a draw").play("deal9952 b13 p").count(5, 1).play("x2 d1 c0 p")
            .won(0, 0, 3, 3000, 6, 30, 19000, 1)
            .seat(0, 0, 43000).count(5, 0);
        script("two BETS, the DEALER is second").play(DEALER_AND_ANOTHER_WIN).count(5, 2).play("c0 c3 p")
            .won(0, 3, 1, 1280, 3, 40, 7200, 2).won(1, 0, 1, 640, 2, 40, 3900, 2).count(5, 0);
    }

    /** "1: 3,000 from 1,000 each; 2: 1,500 each; 3: 1,000 each from one's 3,000; else nothing". */
    private static void withoutAWinner() {
        script("nobody").play("deal7 x70").waits(0).waits(1).waits(2).waits(3).points(25000, 25000, 25000, 25000);
        script("one").play("deal427 x70").waits(2, 1).points(24000, 24000, 28000, 24000);
        // Two of them with a BET.
        script("two").play(EndTest.TWO_WAIT).points(23500, 25500, 25500, 23500).count(5, 2);
        script("three").play(EndTest.THREE_WAIT).points(26000, 25000, 22000, 25000).count(5, 2);
        script("four").play(EndTest.FOUR_WAIT).points(24000, 24000, 24000, 25000).count(5, 3);
    }

    /** "the DEALER stays, if that won": by a draw, or by another's tile. STAYS is 1 more. */
    private static void dealerStaysIfItWon() {
        script("by a draw").play("deal136776 x68 w").count(2, 0).count(4, 1).count(3, 0);
        script("by a tile").play(by(DEALER_WINS, 0)).count(2, 0).count(4, 1).play(by(DEALER_WINS, 0)).count(4, 2);
    }

    /** "0 if others alone won": not if the DEALER won with them. */
    private static void dealerStaysIfItWonToo() {
        script("with another").play(DEALER_AND_ANOTHER_WIN + "c3 c0 p").count(11, 2).count(2, 0).count(4, 1);
        script("another alone").play("deal63 n").count(4, 1).play(DEALER_AND_ANOTHER_WIN + "c3 p").count(2, 1)
            .count(4, 0);
    }

    /** "or, without a winner, WAITED": STAYS is 1 more, whether it stays or not. */
    private static void dealerStaysIfItWaited() {
        script("it WAITED").play("deal9952 x70").waits(0, 1, 4).count(2, 0).count(4, 1);
        script("it did not").play("deal427 x70").count(2, 1).count(4, 1);
        script("nobody did").play("deal7 x70").count(2, 1).count(4, 1).play("deal7 x70").count(2, 2).count(4, 2);
        script("all did").play(EndTest.FOUR_WAIT).count(2, 0).count(4, 1);
    }

    /** "(or the hand was given up)": by whomever. */
    private static void dealerStaysIfGivenUp() {
        script("by the DEALER").play("deal63 n").count(2, 0).count(4, 1).count(10, 1)
            .points(25000, 25000, 25000, 25000);
        script("by another").play("deal1163 x1 n").count(2, 0).count(4, 1);
        // The BET of 0 stays on the table, for the first to win.
        script("with a BET").play("deal4532417 b13 p n").count(5, 1).count(2, 0).count(4, 1)
            .points(24000, 25000, 25000,
            25000).seat(0, 1, 2).play(by(NEXT_WINS, 1)).won(0, 1, 0, 240, 1, 30, 2300, 5).count(5, 0);
    }

    /** "else it is the next SEAT". */
    private static void dealerGoesOn() {
        script("the next SEAT").play(by(NEXT_WINS, 1)).count(2, 1).count(3, 0).count(4, 0);
        script("not the winner").play("deal262750 d16 c3 p").won(0, 3, 0).count(2, 1);
        script("not the winner either").play("deal75369 d11 c2 p").won(0, 2, 0).count(2, 1);
    }

    /** "as it would be 0 again the ROUND is 1 more": not before, and not if 3 stays. */
    private static void roundIsOneMore() {
        Script script = script("ROUNDS");
        for (int i = 1; i <= 3; i++) {
            script.play(by(NEXT_WINS, i)).count(2, i).count(3, 0);
        }
        script.play(by(DEALER_WINS, 3)).count(2, 3).count(3, 0).count(4, 1);
        script.play(by(NEXT_WINS, 0)).count(2, 0).count(3, 1).count(4, 0);
        script = script("ROUNDS without a winner");
        for (int i = 1; i <= 3; i++) {
            script.play(by(NEXT_WINS, i));
        }
        script.play("deal7 x70").count(2, 0).count(3, 1).count(4, 1);
    }

    /** "The GAME ends as a SEAT has fewer than 0 POINTS": who won, or not. */
    private static void fewerThanZeroPoints() {
        script("a draw").play("deal78981 w deal78981 w").points(121300, -7100, -7100, -7100).count(9, 1).count(0, 0)
            .count(2, 0).count(3, 0).count(4, 1).count(10, 2);
        Script script = script("a discard");
        for (int i = 0; i < 10; i++) {
            script.count(9, 0).play(by(DEALER_WINS, 0));
        }
        // 1,500, 1,800, .. , 4,200 were paid.
        script.points(53500, -3500, 25000, 25000).count(9, 1).count(4, 9).count(10, 10);
    }

    /** 0 POINTS are not fewer than 0. */
    private static void zeroPoints() {
        script("0 POINTS").play("deal78981 w deal33705604014929126 n deal-953511006751253465 d22 c1 p deal185104 x1 w")
            .points(58000, 0, 41000, 1000).count(9, 0).play("deal1").count(0, 1);
    }

    /** "or the ROUND would be 2": DEALER, ROUND, STAYS stay. */
    private static void roundWouldBeTwo() {
        lastHand("another wins").play(by(NEXT_WINS, 0)).count(9, 1).count(2, 3).count(3, 1).count(4, 0).count(10, 8)
            .points(25000, 25000, 25000, 25000).play("!deal1");
        lastHand("STAYS 1, another wins").play("deal63 n").count(9, 0).count(4, 1).play(by(NEXT_WINS, 0)).count(9, 1)
            .count(2, 3).count(3, 1).count(4, 1).play("!deal1");
        lastHand("nobody wins").play("deal7 x70").count(9, 1).count(2, 3).count(3, 1).count(4, 0).play("!deal1");
    }

    /** The ROUND would not be 2 as the DEALER stays. */
    private static void lastDealerStays() {
        lastHand("it wins").play(by(DEALER_WINS, 3)).count(9, 0).count(2, 3).count(3, 1).count(4, 1).play("deal1");
        lastHand("it WAITS").play("deal9952 x70").waits(3, 1, 4).count(9, 0).count(2, 3).count(3, 1).count(4, 1)
            .play("deal1");
        lastHand("it gives up").play("deal63 n").count(9, 0).count(2, 3).count(3, 1).count(4, 1).play("deal1");
    }

    /** "BETS go to the SEAT with the most POINTS". */
    private static void betsAtTheEnd() {
        // DEALER 3: 0 and 1 bet and WAIT. 24,500, 25,500, 23,500, 24,500, and two BETS for 1.
        lastHand("the ROUND").play(EndTest.TWO_WAIT).count(9, 1).count(5, 0).points(24500, 27500, 23500, 24500);
        // 0 has 1,000 POINTS and pays 3,000 to the others, two of which have bet; 2 has the most.
        script("POINTS below 0").play("deal185104 x1 w deal185104 x1 w").points(1000, 41000, 49000, 9000).count(2, 2)
            .play(EndTest.THREE_WAIT).count(9, 1).count(5, 0).points(-2000, 41000, 52000, 9000).count(2, 2)
            .count(4, 0);
    }

    /** "(the lowest of several)": 0 and 1 have 25,500 both. */
    private static void theLowestOfSeveral() {
        Script script = script("several");
        for (int i = 1; i <= 6; i++) {
            script.play(by(NEXT_WINS, i % 4));
        }
        // 2 is the DEALER and pays back to 0.
        script.play("deal75369 d11 c0 p").points(25000, 25000, 25000, 25000).count(2, 3).count(3, 1);
        script.play(EndTest.TWO_WAIT).count(9, 1).points(27500, 25500, 23500, 23500);
    }

    /** "In PHASE 0 hands, SETS laid down .., discards, flags, SIGNS are as the hand ended". */
    private static void phaseZero() {
        Script script = script("won by a tile").play("deal30623 d28 f2 d10 p d22 c2")
            .has(2, 20, 21, 22, 23, 23, 24, 24, 25,
            33, 33).play("p").count(0, 0);
        // The 22 is not in the hand of 2; it is a discard of 3.
        script.has(2, 20, 21, 22, 23, 23, 24, 24, 25, 33, 33).laid(2, 0, 2, 28).seat(2, 7, 1).seat(2, 6, 1)
            .seat(3, 4, 1);
        CHECK.due("river(3, 0)", script.house.river(3, 0), 22);
        CHECK.due("river(0, 0), which was claimed", script.house.river(0, 0), 28);
        script.count(8, 2).count(7, 1).count(12, -1).count(1, -1).waits(2, 19, 22, 25);
        script("won by a draw").play("deal590752 b11 p x3 w")
            .has(0, 1, 2, 3, 5, 5, 12, 13, 14, 15, 16, 17, 22, 23, 24)
            .seat(0, 1, 2).seat(0, 7, 0).count(8, 1).count(12, -1).count(1, -1);
        // "(a robbed FOUR, too)".
        script("robbed").play("deal8388691691443010381 d8 p d6 p d3 p d14 t2 d28 p d15 p d9 p d1 p d29 p d25 t0 d29 p d22 p "
            + "a14 c0 p").laid(2, 0, 2, 14).hand(2, 14, 0).hand(0, 14, 0).count(8, 1).seat(0, 7, 1);
        script("without a winner").play(EndTest.TWO_WAIT).seat(1, 1, 1).seat(2, 1, 1).count(6, 0).count(8, 1);
    }
}
