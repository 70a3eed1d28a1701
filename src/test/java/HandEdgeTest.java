/** Terms 3, a test for each sentence with an edge that is about one hand: WAITS, BETS, flags, FORMS. */
public final class HandEdgeTest {
    private static final Check CHECK = new Check("HandEdgeTest");

    public static void main(String[] args) {
        gameAtFirst();
        phases();
        waitsOfWhoHasDrawn();
        waitsOfWhoHasClaimed();
        waitsNotForAllFour();
        thousandAsItIsOver();
        thousandAsItIsClaimed();
        thousandNotIfWonBy();
        betMakesNoFour();
        firstBetWithTheFirstDiscard();
        firstBetNoSetClaimed();
        firstBetNoFourMade();
        atOnceUpToTheNextDiscard();
        atOnceNoSetClaimed();
        atOnceNoFourMade();
        lettingGoAsItIsOver();
        lettingGoAsItIsClaimed();
        lettingGoAnAddedTile();
        lettingGoUpToTheNextDraw();
        lettingGoWithBet();
        lettingGoUpToTheHandsEnd();
        winsByItsOwnDraws();
        lastDraw();
        lastTile();
        behindTheLastFour();
        heaven();
        earth();
        CHECK.end();
    }

    private static Script script(String name) {
        return new Script(CHECK, name);
    }

    /** "DEALER 0, ROUND 0, STAYS 0, 25,000 POINTS each, BETS on the table 0". */
    private static void gameAtFirst() {
        script("at first").count(2, 0).count(3, 0).count(4, 0).count(5, 0).points(25000, 25000, 25000, 25000)
            .play("deal14").count(2, 0).count(3, 0).count(4, 0).count(5, 0).points(25000, 25000, 25000, 25000);
    }

    /** "1: a SEAT, having drawn or claimed, is to discard; 2: ..; 3: ..; 0: no hand goes on". */
    private static void phases() {
        script("PHASES").count(0, 0).play("deal14").count(0, 1).play("d33").count(0, 2).play("t1").count(0, 1)
            .play("d29").count(0, 2).play("p").count(0, 1).play("d5 p d31 p d30 p a33").count(0, 3).play("p")
            .count(0, 1).play("d2").count(0, 2);
        script("PHASE 0 behind a hand").play("deal63 n").count(0, 0);
    }

    /** "WAITS of a SEAT that has drawn nothing": none as it draws, again as it discards. */
    private static void waitsOfWhoHasDrawn() {
        script("drawn").play("deal9952").waits(0).play("d13").waits(0, 1, 4).play("p x3").count(1, 0).waits(0)
            .play("x1").waits(0, 1, 4);
        // 0 won by its draw and keeps the 14 tiles.
        script("won by a draw").play("deal590752 b11 p").waits(0, 5).play("x3 w").waits(0);
        script("won by a discard").play("deal9952 b13 p x2 d1 c0 p").waits(0, 1, 4);
        script("gave the hand up").play("deal63 n").waits(0);
    }

    /** "(nor claimed)": a RUN, a THREE, a FOUR behind which it drew. */
    private static void waitsOfWhoHasClaimed() {
        script("a RUN").play("deal6131 d27 t3 d14 p d7 p d32 p d23").waits(3, 23, 26).play("r3.23").waits(3)
            .play("d8").count(0, 2);
        script("a THREE").play("deal246 d15 p d17 p d27 t0 d1 p d31").waits(0, 19, 31).play("t0").waits(0);
        script("a FOUR").play("deal1330749734943419278 d30 p d18 p d29 p d17 p d27 p d15 p d8 p d25 p d32 p d24 p d5 "
            + "t0 d8 p d16").waits(0, 0, 16).play("f0").waits(0);
    }

    /** "of which it has not all four itself": in the hand, or laid down. */
    private static void waitsNotForAllFour() {
        script("all four").play("deal12479715 d25").has(0, 1, 2, 3, 4, 5, 6, 14, 15, 16, 19, 19, 19, 19).waits(0);
        script("all four of one").play("deal32511915 d33").has(0, 4, 4, 4, 4, 6, 6, 6, 9, 10, 11, 24, 25, 26)
            .waits(0, 5);
    }

    /** "Its 1,000 go onto the table as that discard is over". */
    private static void thousandAsItIsOver() {
        script("over").play("deal9952 b13").seat(0, 0, 25000).count(5, 0).seat(0, 1, 2).play("p")
            .seat(0, 0, 24000).count(5, 1).play("x3").count(1, 0).play("x1").seat(0, 0, 24000).count(5, 1);
    }

    /** "or claimed". */
    private static void thousandAsItIsClaimed() {
        script("claimed for a THREE").play("deal437946 b7").seat(0, 0, 25000).play("t1").seat(0, 0, 24000)
            .count(5, 1);
        script("claimed for a RUN").play("deal44882 x1 b2").seat(1, 0, 25000).play("r2.1").seat(1, 0, 24000)
            .count(5, 1);
    }

    /** "(not if it is won by)". */
    private static void thousandNotIfWonBy() {
        Script script = script("won by").play("deal9047068871129210606 d14 p d4 p d9 p d5 p d10 p d3 p d27 p d33 p d27 p "
            + "d5 p d31 p d26 p d22 p d20 p d9 p d29 p d32 p b7 c3").seat(1, 0, 25000).count(5, 0).play("p");
        script.won(0, 3, 1, 400, 2, 25, 1600, 7).points(25000, 23400, 25000, 26600).count(5, 0).seat(1, 1, 1);
        // Nor does it go later.
        script.play("deal14").points(25000, 23400, 25000, 26600).play("d33 p").count(5, 0).seat(1, 0, 23400);
    }

    /** "and makes no FOUR": neither out of its hand nor of a discard. */
    private static void betMakesNoFour() {
        script("hide").play("deal-5348581569865728475 d5 p d13 p d15 p d23 p d27 p b33 p d2 t3 d32 p d12 p")
            .hand(1, 16, 4)
            .play("!h16").count(7, 0);
        script("four").play("deal44882 x1 b2 r2.1 d8").hand(1, 8, 3).play("!f1").count(7, 0);
    }

    /** "FIRST BET: with its first discard": of each SEAT; 1 with a later one. */
    private static void firstBetWithTheFirstDiscard() {
        script("0 bets first").play("deal1256 b13").seat(0, 1, 2);
        script("1 bets first").play("deal41491 x1 b4").seat(1, 1, 2);
        script("2 bets first").play("deal427 x1 d8 p b1").seat(2, 1, 2);
        script("3 bets first").play("deal105218 x3 b1").seat(3, 1, 2);
        script("a later hand").play("deal30623 d28 f2 d10 p d22 c2 p deal1256 b13").seat(1, 1, 2);
        Script script = script("0 bets second").play("deal9952 d13 p x3").count(1, 0);
        script.play("b" + script.house.count(12)).seat(0, 1, 1);
    }

    /** "no SET having been claimed": by another SEAT before its first discard. */
    private static void firstBetNoSetClaimed() {
        script("a SET was claimed").play("deal89081 d13 r1.12 d10 p").seat(2, 4, 0).play("b7").seat(2, 1, 1);
    }

    /** "or FOUR made in the hand": by another SEAT, or by itself. */
    private static void firstBetNoFourMade() {
        script("another's FOUR").play("deal17686 h24 d3 p").seat(1, 4, 0).play("b19").seat(1, 1, 1);
        script("its own FOUR").play("deal104026 d14 p h11").seat(1, 4, 0).play("b19").seat(1, 1, 1);
    }

    /** "AT ONCE: up to its next discard": by others' discards, and by its next draw, not later. */
    private static void atOnceUpToTheNextDiscard() {
        script("before its next draw").play("deal9952 b13 p x2 d1 c0 p").forms(0, 1, 2, 9);
        script("by its next draw").play("deal590752 b11 p x3 w").forms(0, 1, 2, 3);
        script("behind its next discard").play("deal9952 b13 p x4 d1 c0 p").forms(0, 1, 9);
        script("by the draw behind").play("deal204907 b4 p x7 w").forms(0, 1, 3);
    }

    /** "no SET having been claimed": its own discard, or another's. */
    private static void atOnceNoSetClaimed() {
        script("the BET's discard was claimed").play("deal437946 b7 t1 d24 c0 p").forms(0, 1, 10);
        script("another's was claimed").play("deal91124 b17 p d21 t3 d3 c0 p").forms(0, 1);
        script("none was claimed").play("deal91124 b17 p x2 d3 c0 p").forms(0, 1, 2);
    }

    /** "nor FOUR made since"; a FOUR that is robbed is not made. */
    private static void atOnceNoFourMade() {
        script("a FOUR").play("deal2081354 b28 p h24 d19 c0 p").forms(0, 1);
        script("a robbed FOUR").play("deal-3310977022257032615 d11 t1 d14 p d12 p d13 p d18 p d25 p d2 p d26 p d8 p d17 p "
            + "d9 p b0 p d26 p a11 c3 p").forms(0, 0, 2, 7);
        // The FOUR was made before the BET.
        script("a FOUR before").play("deal29065 d28 p h17 d8 p d18 p d21 p d32 p d33 p d27 p b26 p d2 c3 p")
            .forms(0, 0, 2);
    }

    /** "as a discard .. is over .., each other SEAT that WAITS for it has LET GO": not before. */
    private static void lettingGoAsItIsOver() {
        script("over").play("deal1980887079960266112 d21 p d8 p d4").seat(0, 2, 0).play("p").seat(0, 2, 1)
            .seat(1, 2, 0).seat(2, 2, 0).seat(3, 2, 0);
        // 0 WAITS for the 7 that it threw: it is no other SEAT.
        script("its own").play("deal96239 d7").waits(0, 4, 7, 16).play("p").seat(0, 2, 0);
        // The one who is to draw next draws at once.
        script("the next one").play("deal325179 d5").waits(1, 5, 8).play("p").count(1, 1).seat(1, 2, 0);
    }

    /** "or claimed": by another SEAT; by itself, for a SET. */
    private static void lettingGoAsItIsClaimed() {
        // 0 WAITS for 24, which 2 claims.
        script("by another").play("deal134264 b15 p d24").waits(0, 21, 24).seat(0, 2, 0).play("r2.23").seat(0, 2, 1);
        script("by itself").play("deal6131 d27 t3 d14 p d7 p d32 p d23 r3.23").seat(3, 2, 1).play("d8 p x3")
            .count(1, 3).seat(3, 2, 0);
    }

    /** "or an added tile". */
    private static void lettingGoAnAddedTile() {
        script("added").play("deal8388691691443010381 d8 p d6 p d3 p d14 t2 d28 p d15 p d9 p d1 p d29 p d25 t0 d29 p d22 p "
            + "a14").waits(0, 11, 14).seat(0, 2, 0).play("p").seat(0, 2, 1).seat(1, 2, 0).seat(3, 2, 0);
    }

    /** "up to its next draw": behind a FOUR, too. */
    private static void lettingGoUpToTheNextDraw() {
        script("its next draw").play("deal1980887079960266112 d21 p d8 p d4 p x1").count(1, 0).seat(0, 2, 0);
        script("behind a FOUR").play("deal1330749734943419278 d30 p d18 p d29 p d17 p d27 p d15 p d8 p d25 p d32 p d24 p "
            + "d5 t0 d8 p d16").waits(0, 0, 16).play("f0").seat(0, 2, 0);
    }

    /** "with a BET to the hand's end". */
    private static void lettingGoWithBet() {
        Script script = script("with a BET").play("deal7467952719035169308 d27 p d32 p d17 p d3 p b29 p d24 p")
            .seat(0, 2, 1);
        script.play("x2").count(1, 0).seat(0, 2, 1).play("x4").count(1, 0).seat(0, 2, 1);
    }

    /** In PHASE 0 flags are as the hand ended; the next hand begins without them. */
    private static void lettingGoUpToTheHandsEnd() {
        Script script = script("the hand's end")
            .play("deal7467952719035169308 d27 p d32 p d17 p d3 p b29 p d24 p x64");
        script.count(0, 0).seat(0, 2, 1).seat(0, 1, 1).play("deal14").seat(0, 2, 0).seat(0, 1, 0);
        // 3, which does not draw as the next hand begins.
        script("the hand's end of 3").play(EndTest.THREE_WAIT).seat(3, 1, 1).seat(3, 2, 1).play("deal1").count(1, 0)
            .seat(3, 1, 0).seat(3, 2, 0);
    }

    /** "wins by its own draws alone": who LET GO, or discarded what it WAITS for. */
    private static void winsByItsOwnDraws() {
        // 1 throws what it WAITS for, must not claim the 16 of 2, and draws another.
        script("its own discard").play("deal4376707 x2 d16 !c1 p").seat(1, 2, 1).play("x2").count(1, 1).play("w")
            .won(0, 1, -1);
        // 0 lets the 3 of 1 go with a BET, must not claim the 0 of 2, and draws another.
        script("it LET GO").play("deal3753789 b21 p d3 p").seat(0, 2, 1).play("d0 !c0 p x1").count(1, 0)
            .seat(0, 2, 1).play("w").forms(0, 1, 2, 3, 9);
        // Without a BET it has not LET GO any more, as it draws.
        script("it LET GO, no BET").play("deal656867 d5 p").seat(3, 2, 1).play("x2").seat(3, 2, 0).play("w")
            .forms(0, 43);
    }

    /** "LAST DRAW: the WINNER is the last tile that could be drawn (not behind a FOUR)". */
    private static void lastDraw() {
        script("the last").play("deal437260 x69").count(6, 0).play("w").forms(0, 3, 4, 16);
        script("the last but one").play("deal136776 x68").count(6, 1).play("w").forms(0, 3);
        // One FOUR was made: the last place is 120. One tile is dear.
        script("the last with a FOUR").play("deal170724 d28 p d33 p d17 p d1 p d2 p d23 r2.23 d5 p x1 d12 p d31 p d10 p "
            + "d29 p d32 p h30 x1 d31 p b31 p x1 d32 p d19 p x1 d3 p d10 p x2 d8 p d1 p d29 p x3 d13 p x2 d22 p d23 p x1 "
            + "d9 p d17 r2.15 d0 p x1 d33 p d0 p x2 d4 p b27 p x10 b3 p x13").count(6, 0).count(7, 1).play("w")
            .forms(0, 4).won(0, 2, -1, 480, 2, 30, 5000, 0);
    }

    /** "LAST TILE: the discard behind that". */
    private static void lastTile() {
        script("the last").play("deal91297 x69 d2 c2 p").forms(0, 5, 12).won(0, 2, 1, 1280, 3, 40, 5200, 2);
        script("the last but one").play("deal91297 x68 d2 c2 p").forms(0, 12).won(0, 2, 0, 640, 2, 40, 2600, 2);
    }

    /** "(also behind a FOUR, when none is left)"; the draw behind it is no LAST DRAW. */
    private static void behindTheLastFour() {
        script("the discard").play("deal69432235 x68").count(6, 1).play("h30 d1").count(6, 0).play("c3 p")
            .forms(0, 5);
        script("the draw").play("deal18022 d7 p d26 p d25 p d31 p d28 p d9 p d5 r3.4 d20 p x1 d11 p d9 p d32 t2 d20 p x2 "
            + "d29 t0 d26 p x1 d26 p x2 d12 p d27 p x1 d0 p d10 p d10 p x3 d33 p d5 r0.3 d27 p x5 d13 p x4 h1 d3 p x2 d3 p "
            + "d4 p d2 t1 d15 p d25 p d2 p x2 d16 p x1 d14 p d31 p x1 d12 p x1 d8 p d18 p x1 d22 p x1 d3 p x1 d11 p x1 a32 "
            + "p d8 p d30 f2").count(6, 0).play("w").forms(0, 6, 12).won(0, 2, -1, 1920, 3, 60, 7900, 23);
    }

    /** "HEAVEN: the DEALER's first draw": not behind a FOUR, which is its second. */
    private static void heaven() {
        script("HEAVEN").play("deal78981 w").forms(0, 42).won(0, 0, -1, 8000, 13, 25, 48000, 22);
        script("behind a FOUR").play("deal63223968 h3 w").forms(0, 3, 6, 20).won(0, 0, -1, 2000, 4, 50, 12000, 11);
        // A FOUR was made in the hand before.
        script("a later hand").play("deal30623 d28 f2 d10 p d22 c2 p deal78981 w").forms(0, 42).won(0, 1, -1);
        // The DEALER's second draw, nothing having been claimed.
        script("its second draw").play("deal590752 d11 p x3 w").forms(0, 3);
    }

    /** "EARTH: another's first draw, no SET having been claimed or FOUR made". */
    private static void earth() {
        script("EARTH of 1").play("deal185104 x1 w").forms(0, 43);
        script("EARTH of 2").play("deal207827 x2 w").forms(0, 43);
        script("EARTH of 3").play("deal10453 x3 w").forms(0, 43);
        script("a later hand").play("deal30623 d28 f2 d10 p d22 c2 p deal185104 x1 w").forms(0, 43).won(0, 2, -1);
        script("a SET was claimed").play("deal669692 d14 t2 d0 p").seat(3, 4, 0).play("w").forms(0, 3, 15);
        script("a FOUR was made").play("deal88861585 h17 x1").seat(1, 4, 0).play("w").forms(0, 3, 8, 9);
    }
}
