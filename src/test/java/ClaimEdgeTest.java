/**
 * Promises 5, 6, 7 and 11, a test for each cause for which a claim is refused: nothing else
 * stands against it, and where there is a nearest call that is not refused, that one is made too.
 */
public final class ClaimEdgeTest {
    private static final Check CHECK = new Check("ClaimEdgeTest");
    private static final String FAR = "-2147483648 -2147483647 -4 -3 -2 -1 4 5 6 7 2147483646 2147483647";

    public static void main(String[] args) {
        runNotInPhase2();
        runSomebodyWins();
        runNoTileLeft();
        runNotTheNext();
        runWithBet();
        runNotTheOthers();
        runDiscardNotInIt();
        runIsNone();
        runNothingToDiscard();
        runSomethingToDiscard();
        threeNotInPhase2();
        threeSomebodyWins();
        threeNoTileLeft();
        threeAnyOtherSeat();
        threeWithBet();
        threeTwoOfTheKind();
        fourNotInPhase2();
        fourSomebodyWins();
        fourNoTileLeft();
        fourAnyOtherSeat();
        fourWithBet();
        fourThreeOfTheKind();
        fourFourFours();
        claimNotInPhase2Or3();
        claimItsOwn();
        claimSaidSo();
        claimDoesNotWait();
        claimLetGo();
        claimOwnDiscards();
        claimWorthNothing();
        CHECK.end();
    }

    private static Script script(String name) {
        return new Script(CHECK, name);
    }

    /** A call that a SEAT could make, with one that is none; the text has # where the SEAT stands. */
    private static void noSuchSeat(Script script, String call) {
        for (String seat : FAR.split(" ")) {
            script.play("!" + call.replace("#", seat));
        }
    }

    /** "not PHASE 2": 0 before a hand and behind one, 1 behind a draw or a claim, 3. */
    private static void runNotInPhase2() {
        Script script = script("run, PHASE 0 and 1").play("!r0.0 !r1.0 deal5").count(0, 1);
        // 1 has 3 5, and the 4 lies in the hand of 0.
        script.hand(0, 4, 1).play("!r1.3 !r0.3 !r2.3");
        script("run, PHASE 1 behind a claim").play("deal15 d4 r1.4 !r1.4 !r2.4 !r2.5");
        // 3 adds a 20, 0 has 19 21.
        script("run, PHASE 3").play("deal46455 d20 t3 d24 p d29 p d12 p x1 a20").count(0, 3)
            .hand(0, 19, 1).hand(0, 21, 1).play("!r0.19 p");
        script("run, PHASE 0 behind a hand").play("deal166626 d31 p d14 c2 p").count(0, 0)
            .hand(2, 15, 1).hand(2, 16, 1).play("!r2.14");
    }

    /** "somebody wins by it": another SEAT, or the claiming one itself. */
    private static void runSomebodyWins() {
        // 2 has 23 25; until 0 says that it wins, it could have the 24.
        script("run, 0 wins").play("deal134264 b15 p d24 c0").hand(2, 23, 1).hand(2, 25, 1)
            .play("!r2.23 p").won(0, 0, 1);
        script("run, nobody wins").play("deal134264 b15 p d24 r2.23");
        script("run, it wins itself").play("deal166626 d31 p d14 c2 !r2.14 p").won(0, 2, 1);
        script("run, it does not say so").play("deal166626 d31 p d14 r2.14");
    }

    /** "no tile left to be drawn": with one left it goes. */
    private static void runNoTileLeft() {
        script("run, none left").play("deal7 x69").count(6, 0).count(1, 1).play("d19 !r2.18 p");
        script("run, none left again").play("deal7 x69 d25 !r2.23 p").count(0, 0);
        script("run, one left").play("deal7 x68").count(6, 1).count(1, 0).play("d5 r1.5").count(6, 1);
    }

    /** "the SEAT is not the next one"; the next one of 3 is 0. */
    private static void runNotTheNext() {
        script("run, two behind").play("deal5 d4").hand(2, 3, 1).hand(2, 5, 1).play("!r2.3");
        script("run, three behind").play("deal19 d12").hand(3, 10, 1).hand(3, 11, 1).play("!r3.10");
        script("run, its own").play("deal6 d5").hand(0, 3, 1).hand(0, 4, 1).play("!r0.3");
        Script script = script("run, the next one of 3").play("deal0 x3 d5").count(1, 3).play("!r3.3");
        noSuchSeat(script, "r#.3");
        script.play("r0.3").count(1, 0).laid(0, 0, 0, 3);
    }

    /** "has a BET". */
    private static void runWithBet() {
        script("run with a BET").play("deal59947 x1 d17 p b23 t1 d9").seat(2, 1, 2).hand(2, 10, 1)
            .hand(2, 11, 2).play("!r2.9");
        script("run without a BET").play("deal59947 x1 d17 p d23 t1 d9 r2.9");
    }

    /** "or not the others": one of them is not enough, whichever it is. */
    private static void runNotTheOthers() {
        // 1 has 5 6, no 2 and no 3.
        script("run, not the others").play("deal15 d4").hand(1, 2, 0).hand(1, 3, 0).hand(1, 5, 1)
            .hand(1, 6, 1).play("!r1.2 !r1.3 r1.4");
        // 1 has 19 and no 17 behind 18; the 18 and 20 that others have do not count.
        script("run, the lowest wants").play("deal1 d18").hand(1, 19, 1).hand(1, 20, 1).play("!r1.16 !r1.17 r1.18");
    }

    /** "the discard is not in it": 1 has a whole RUN beside the discard. */
    private static void runDiscardNotInIt() {
        script("run, the discard is above it").play("deal11 d5").hand(1, 2, 1).hand(1, 3, 2)
            .hand(1, 4, 1).play("!r1.2 r1.3");
        script("run, the discard is below it").play("deal1 d18").hand(1, 19, 1).hand(1, 20, 1)
            .hand(1, 21, 1).play("!r1.19 r1.18");
    }

    /** "it is no RUN": over the end of a suit, of HONOURS, and no KINDS at all. */
    private static void runIsNone() {
        String[] tried = {"deal7 d8 7", "deal2 d9 8", "deal1 d18 16", "deal1 d18 17", "deal7 d27 25",
            "deal21 d27 26", "deal12 d28 27", "deal13 d29 28", "deal14 d30 29", "deal23 d31 30",
            "deal5 d32 31", "deal16 d33 31"};
        for (String calls : tried) {
            int end = calls.lastIndexOf(' ');
            int low = Integer.parseInt(calls.substring(end + 1));
            Script script = script("no RUN from " + low).play(calls.substring(0, end));
            for (int kind = low; kind <= low + 2; kind++) {
                CHECK.yes("1 has " + kind, kind == script.house.count(12) || script.house.hand(1, kind) > 0);
            }
            script.play("!r1." + low);
        }
        script("no such KIND").play("deal16 d33 !r1.32 !r1.33 !r1.34 !r1.-1 !r1.2147483647 "
            + "!r1.-2147483648 !r1.2147483645");
        // 1 has 1 2 and the discard is 0: there is nothing before the first KIND.
        script("KIND -1").play("deal23 d0").hand(1, 1, 1).hand(1, 2, 1).play("!r1.-1 !r1.-2 r1.0");
    }

    /** "or it could discard nothing then": both tiles that would stay must not be discarded. */
    private static void runNothingToDiscard() {
        // Two of the KIND that is claimed: as the highest, the lowest, the middle.
        nothing("deal221771 d21 p d26 p d7 p d3 p d29 p d2 f0 d27 t2 d33 p d5 p d3 p d30 p d23 p d18 r0.18 d15 "
            + "p d27 p d32 t0 d0 p d21 p d26 p d19 p d30 p d12 p x1 d17 !r0.15", 15, 16, 17, 17);
        nothing("deal261931 d11 r1.10 d32 p d25 p d3 p d1 p d1 p d29 p d31 t1 d14 p x1 d20 p d17 p x1 d27 t1 d9 "
            + "t3 d10 p d13 p x1 d4 p d33 t0 d27 p x1 d4 p d29 p d26 p x1 d23 p d24 p d8 p d7 t0 d20 !r1.20",
            20, 20, 21, 22);
        nothing("deal55070 d7 t3 d3 p d26 p d32 p d14 p d28 p d27 p x1 d17 p d8 p d12 p d21 p d5 p d30 p d29 p "
            + "d11 p d19 p d24 p d13 p d33 p d28 p d18 p x2 d26 r3.24 d10 p x5 d4 t3 d13 p x1 d15 p d14 p d14 p "
            + "x1 d33 p d1 !r3.0", 0, 1, 1, 2);
        // One of the KIND that is claimed, one at the other end.
        nothing("deal50619 d9 p d8 p d4 r3.4 d24 p x1 d20 r2.19 d15 p d31 p d6 p d0 r2.0 d8 p d27 p d27 p d30 t2 "
            + "d31 p d17 p d33 p d25 !r2.23", 22, 23, 24, 25);
        nothing("deal42381 d32 t2 d28 p x1 d27 p d3 p d33 p d25 p d19 p d27 p d30 t3 d18 p d4 t3 d28 p d21 p d2 p "
            + "d18 p x1 d12 p d26 t3 d2 p x1 d6 p x2 d29 p d0 p d11 p d1 p x2 d10 !r3.10", 10, 11, 12, 13);
        // Two at the other end.
        nothing("deal102442 d27 p d3 f3 x1 d8 p d15 p d0 p d18 p d30 p x1 d30 p d28 f1 d18 p d10 p d7 p d31 p d8 p "
            + "d29 p d18 p d1 r1.0 d15 p d9 t1 d2 p d13 p d33 p d16 p d2 p d4 p d25 p d7 !r1.5", 4, 4, 5, 6);
        nothing("deal79696 d6 p d30 p x1 d33 t2 d18 p d17 p d10 p d2 p d26 p d10 t2 d11 p d2 p d7 p d18 p d7 p d14 "
            + "p d12 p d9 p d14 r3.14 d30 p x1 d17 p x1 d19 p d4 f2 d29 p d31 p x1 d19 !r2.19", 20, 21, 22, 22);
    }

    private static void nothing(String calls, int... kinds) {
        int end = calls.lastIndexOf('!');
        Script script = script("run, nothing to discard").play(calls.substring(0, end));
        int seat = script.house.count(1) + 1 & 3;
        script.seat(seat, 5, 3).has(seat, kinds).play(calls.substring(end) + " p");
    }

    /** One tile that may be discarded is enough; what stands over the end of a suit is one. */
    private static void runSomethingToDiscard() {
        something("deal172334 d23 p d19 p d32 t1 d25 p d3 p x1 d25 p x1 d29 t1 d17 p d9 t1 d22 t3 d32 p d16 r1.14");
        something("deal284097 d22 p d9 t2 d26 p x1 d17 p d15 r2.13 d0 p d6 p d21 p d23 r2.22 d33 t1 d1 r2.1");
        something("deal48862 d26 t1 d16 p d15 p d19 p d13 p d10 r2.10 d8 p d27 t0 d32 p d22 p d25 r3.23 d16 p d10 p "
            + "d6 t3 d4 p x1 d0 p d14 r3.12 d33 t2 d11 r3.9");
        // The one tile is another of a KIND of the RUN, the lowest, the middle, the highest.
        something("deal126021 x1 d6 p x1 d27 p d5 p d7 p d19 p d8 t2 d13 p d3 t1 d17 p d9 p d13 p d12 p x2 d9 p d32 t3 "
            + "d11 p d18 p x1 d4 r3.4 d15 p d25 t3 d8 p x3 d30 p d31 p x1 d22 r3.20 !d19 d20");
        String three = "deal45502 d20 p d18 p d7 f1 d10 p x1 d28 p d32 p d32 p x1 d29 p d11 t1 d16 p d19 p d20 p d2 r1.1 "
            + "d17 p d31 p d1 p ";
        something(three + "d22 r1.20 !d19 d21");
        something(three + "d19 r1.19 !d19 d21");
        // The first KIND of all, the last one.
        something(three + "d0 p d21 p d25 p d30 p d19 r1.19 !d19 d0");
        something("deal119665 d15 t3 d17 p d3 p d5 p d21 p d6 p d33 p d8 p d32 t1 d2 t3 d20 p d31 p d4 p d12 r3.11 d30 p "
            + "x1 d14 p d7 r3.6 !d7 d33");
        // 24 25 26 and 27 27; 18 19 20 and 17 17.
        something("deal121042 d2 t3 d14 p d9 p d28 p d3 p d23 t0 d3 p d32 p d17 t3 d11 p d26 p d10 p d9 p x1 d30 p "
            + "x1 d20 t3 d31 p d14 p d9 p d24 r3.24 !d24 d27");
        something("deal317228 d22 r1.20 d16 p d31 p d4 p d21 p x1 d9 p d27 p d13 t1 d28 p x1 d3 p d9 p d1 p d5 f0 "
            + "d33 p x1 d28 p d8 t1 d27 p d20 p d26 p d20 r1.18 !d20 d17");
        // 24 25 26, a 24 and a 27.
        something("deal187275 d7 p d24 p d14 p d10 r0.10 d33 p d17 t0 d9 p d20 t0 d29 p d9 p d17 p d24 r0.24 !d24 d27");
    }

    private static void something(String calls) {
        script("run, something to discard").play(calls);
    }

    private static void threeNotInPhase2() {
        Script script = script("three, PHASE 0 and 1").play("!t0 !t1 deal0").hand(0, 31, 1).hand(1, 31, 2);
        script.play("!t1 d31 t1 !t1 !t2").count(0, 1);
        script("three, PHASE 3").play("deal46455 d20 t3 d24 p d29 p d12 p x1 a20 !t0 !t1 !t2 !t3");
        script("three, PHASE 0 behind a hand").play("deal246 d15 p d17 p d27 t0 d1 p d31 c0 p")
            .hand(0, 31, 2).play("!t0");
    }

    private static void threeSomebodyWins() {
        script("three, 0 wins").play("deal2869 b8 p d14 c0").hand(2, 14, 2).play("!t2 p").won(0, 0, 1);
        script("three, nobody wins").play("deal2869 b8 p d14 t2");
        script("three, it wins itself").play("deal246 d15 p d17 p d27 t0 d1 p d31 c0").hand(0, 31, 2)
            .play("!t0 p").won(0, 0, 1);
    }

    private static void threeNoTileLeft() {
        script("three, none left").play("deal4 x69 d13").count(6, 0).hand(0, 13, 2).play("!t0 p");
        script("three, one left").play("deal4 x68 d13").count(6, 1).play("t1").count(6, 1);
    }

    /** "any other SEAT". */
    private static void threeAnyOtherSeat() {
        script("three, one behind").play("deal0 d31 t1").count(1, 1);
        script("three, two behind").play("deal3 d32 t2").count(1, 2);
        // 0 keeps two of the three that it had.
        script("three, its own").play("deal418 d18").hand(0, 18, 2).play("!t0");
        Script script = script("three, three behind").play("deal8 d1");
        noSuchSeat(script, "t#");
        script.play("t3").count(1, 3);
    }

    private static void threeWithBet() {
        script("three with a BET").play("deal47657 b18 p d9").hand(0, 9, 2).seat(0, 1, 2).play("!t0");
        script("three without a BET").play("deal47657 d18 p d9 t0");
    }

    /** "two of that KIND": with three of them, one stays in the hand. */
    private static void threeTwoOfTheKind() {
        script("three, none").play("deal0 d31").hand(3, 31, 1).hand(2, 31, 0).play("!t2");
        script("three, one").play("deal0 d31").hand(3, 31, 1).play("!t3");
        script("three, two").play("deal0 d31").hand(1, 31, 2).play("t1").hand(1, 31, 0);
        script("three, three").play("deal27 d30").hand(1, 30, 3).play("t1").hand(1, 30, 1).laid(1, 0, 1, 30);
    }

    private static void fourNotInPhase2() {
        Script script = script("four, PHASE 0 and 1").play("!f1 deal27").hand(0, 30, 1).hand(1, 30, 3);
        script.play("!f1 d30 f1 !f1 !f2").count(0, 1);
        script("four, PHASE 3").play("deal46455 d20 t3 d24 p d29 p d12 p x1 a20 !f0 !f1 !f2 !f3");
        // The last discard, when the hand is over.
        script("four, PHASE 0 behind a hand").play("deal11 x69 d22 p").count(0, 0).hand(2, 22, 3).play("!f2");
    }

    private static void fourSomebodyWins() {
        script("four, 0 wins").play("deal99497 x2 d18 p d8 p d3 p d29 p d27 p d5 p d14 p d27 p d24 p "
            + "d23 c0").hand(2, 23, 3).play("!f2 p").won(0, 0, 3);
        script("four, it wins itself").play("deal71410 d32 p d29 p d3 p d0 p d31 p x1 d16 p d2 p d1 p "
            + "d10 p x1 d32 p d17 p d20 c0").hand(0, 20, 3).play("!f0 p").won(0, 0, 1);
    }

    private static void fourNoTileLeft() {
        script("four, none left").play("deal11 x69 d22").count(6, 0).hand(2, 22, 3).play("!f2 p");
        Script script = script("four, one left").play("deal27 x68 d30").count(6, 1).hand(1, 30, 3).play("f1");
        script.count(6, 0).count(12, script.house.wall(122)).count(0, 1).count(1, 1);
    }

    private static void fourAnyOtherSeat() {
        script("four, one behind").play("deal27 d30 f1").count(1, 1);
        script("four, two behind").play("deal17 d8 f2").count(1, 2);
        // 0 keeps three of the four that it had.
        script("four, its own").play("deal3066 d22").hand(0, 22, 3).play("!f0");
        Script script = script("four, three behind").play("deal25 d18");
        noSuchSeat(script, "f#");
        script.play("f3").count(1, 3);
    }

    private static void fourWithBet() {
        script("four with a BET").play("deal44882 x1 b2 r2.1 d8").hand(1, 8, 3).seat(1, 1, 2).play("!f1");
        script("four without a BET").play("deal44882 x1 d2 r2.1 d8 f1");
    }

    /** "three of that KIND": two are not enough, nor is a THREE that is laid down. */
    private static void fourThreeOfTheKind() {
        script("four, two").play("deal0 d31").hand(1, 31, 2).play("!f1 t1");
        script("four, three").play("deal27 d30").hand(1, 30, 3).play("f1");
        // 1 claimed 33 for a THREE; the last one is thrown by 0.
        script("four, a THREE laid down").play("deal14 d33 t1 d29 p d5 p d31 p d30 p").hand(1, 33, 1)
            .play("d33 !f1 p");
    }

    /** "four FOURS are made". */
    private static void fourFourFours() {
        script("a fifth FOUR").play("deal-7558694003251052115 d3 r1.1 d28 p d16 p d29 p d30 p "
            + "d14 p d25 p d2 p d1 p d33 p d9 f3 d4 p d16 p d20 p d18 t1 d15 p d3 p d7 p d8 f3 d32 t0 "
            + "d7 p d25 p d22 p d6 p d22 p d4 p d5 p d20 p d25 p d1 p d11 p d1 p d4 p d24 p d7 p d22 p "
            + "d20 p d0 f2 d28 p d10 p d29 p d10 p d15 p d6 p d14 p d29 p d33 p d13 p d6 p d27 t0 d28 "
            + "p d3 p d13 p d16 p d17").count(7, 3).play("f1").count(7, 4).play("d31").hand(2, 31, 3)
            .play("!f2 t2");
    }

    /** "not PHASE 2, 3": the tile that 0 drew is the one for which 2 WAITS. */
    private static void claimNotInPhase2Or3() {
        script("claim, PHASE 0").play("!c0 !c1 !c2 !c3");
        script("claim, PHASE 1").play("deal427").count(0, 1).count(12, 1).waits(2, 1).play("!c2 d1 c2 p !c2");
    }

    /** "it is its own": 0 WAITS for the 7 that it threw. */
    private static void claimItsOwn() {
        script("claim, its own").play("deal96239 b7").waits(0, 4, 7, 16).play("!c0");
        // 1 added the tile itself.
        script("claim, its own added tile").play("deal14 d33 t1 d29 p d5 p d31 p d30 p a33 !c1");
    }

    private static void claimSaidSo() {
        Script script = script("claim, no SEAT").play("deal427 d1");
        noSuchSeat(script, "c#");
        script.play("c2").seat(2, 7, 1);
        script("claim twice").play("deal427 d1 c2 !c2").seat(2, 7, 1).play("!c2 p").count(11, 1);
    }

    /** "it does not WAIT for it": 2 WAITS for 1 alone. */
    private static void claimDoesNotWait() {
        script("claim, another tile").play("deal427 d7").waits(2, 1).play("!c2");
        script("claim, no WAITS").play("deal427 d1").waits(1).waits(3).play("!c1 !c3 c2");
    }

    /** "LET GO": up to its next draw; with a BET to the hand's end. */
    private static void claimLetGo() {
        // 0 WAITS for 4 7; as it let 4 go, it has not the 7 of the next SEAT.
        script("claim behind letting go").play("deal1980887079960266112 d21 p d8 p d4 p").seat(0, 2, 1)
            .play("d7").waits(0, 4, 7).play("!c0");
        script("claim without letting go").play("deal1980887079960266112 d21 p d8 p x1 d7").waits(0, 4, 7)
            .seat(0, 2, 0).play("c0");
        script("robbing behind letting go").play("deal107806 d20 p d32 p d24 p d29 p d29 p d14 p d28 p "
            + "d27 p d3 p d1 p d12 p d31 p d22 p d4 p d3 p x2 d6 p d27 p d17 p x1 d31 p d18 p d0 p d6 p x1 "
            + "d5 p b23 t0 d24 p x1 d26 p x1 d8 p d32 p x2 a23").seat(3, 2, 1).seat(3, 1, 1).count(0, 3)
            .play("!c3");
    }

    /** "Who ... WAITS for a KIND that it discarded itself": that KIND, or another of its WAITS. */
    private static void claimOwnDiscards() {
        // 0 threw 7 and WAITS for 4 7 16.
        Script script = script("claim, its own discard").play("deal96239 d7 p").seat(0, 2, 0).hand(1, 7, 1);
        script.play("d7").waits(0, 4, 7, 16).play("!c0 p").seat(0, 2, 1);
        script = script("claim, another of its WAITS").play("deal96239 d7 p x1").seat(0, 2, 0);
        script.hand(2, 16, 1).play("d16").waits(0, 4, 7, 16).play("!c0");
        script("robbing, its own discard").play("deal25488 x1 d26 p d0 p d9 p d14 p d3 t0 d17 p d14 p d14 "
            + "p d16 p x1 d30 p d26 p d1 p d26 p d27 t2 d10 p d28 p d28 p x1 d5 p x1 d17 p d12 p d12 p d4 p "
            + "d25 t2 d20 p d9 p a3").count(0, 3).seat(2, 2, 0).play("!c2");
    }

    /** "or it is worth nothing": OPEN, and no FORM by a discard; ROBBED is one. */
    private static void claimWorthNothing() {
        String open = "deal8388691691443010381 d8 p d6 p d3 p d14 t2 d28 p d15 p d9 p d1 p d29 p d25 t0 "
            + "d29 p d22 p ";
        script("claim, worth nothing").play(open + "d14").waits(0, 11, 14).play("!c0 p").seat(0, 2, 1);
        script("claim, worth by ROBBED alone").play(open + "a14").waits(0, 11, 14).play("c0 p").forms(0, 7);
    }
}
