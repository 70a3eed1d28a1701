/**
 * Promises 1 to 4, 8 to 10 and 12, a test for each cause for which a call is refused: nothing else
 * stands against it, and where there is a nearest call that is not refused, that one is made too.
 */
public final class TurnEdgeTest {
    private static final Check CHECK = new Check("TurnEdgeTest");
    private static final String FAR = "-2147483648 -1 34 35 2147483647";
    /** 1 claims 33 for a THREE and adds the fourth. */
    private static final String ADDED = "deal14 d33 t1 d29 p d5 p d31 p d30 p a33 ";

    public static void main(String[] args) {
        newObject();
        dealWhileOneGoesOn();
        dealWhenTheGameHasEnded();
        discardNotInPhase1();
        discardHasNone();
        discardBetWhenOpen();
        discardBetWithoutPoints();
        discardBetWithoutWaits();
        discardBetWithFewTiles();
        discardBetMadeAlready();
        discardByItsBet();
        discardBehindThree();
        discardBehindRun();
        discardBesideRun();
        discardBehindFour();
        passInOtherPhases();
        passInPhase2();
        passInPhase3();
        hideNotInPhase1();
        hideBehindClaim();
        hideWithBet();
        hideHasNotFour();
        hideNoTileLeft();
        hideFourFours();
        addNotInPhase1();
        addBehindClaim();
        addHasNone();
        addNoThree();
        addNoTileLeft();
        addFourFours();
        winNotInPhase1();
        winBehindClaim();
        winNotFull();
        winWorthNothing();
        nineNotInPhase1();
        nineFirstDiscard();
        nineDifferentEnds();
        nineSetClaimed();
        nineFourMade();
        CHECK.end();
    }

    private static Script script(String name) {
        return new Script(CHECK, name);
    }

    /** A call with a KIND that is none is refused; the text has # where the KIND stands. */
    private static void noSuchKind(Script script, String call) {
        for (String kind : FAR.split(" ")) {
            script.play("!" + call.replace("#", kind));
        }
    }

    /** "A GAME, no hand yet": all but deal() is refused, and the first hand is dealt. */
    private static void newObject() {
        Script script = script("a new object").count(0, 0).count(10, 0);
        script.play("!d0 !b0 !p !r1.0 !t1 !f1 !h0 !a0 !w !c1 !n").points(25000, 25000, 25000, 25000);
        script.play("deal0").count(0, 1).count(10, 0);
    }

    /** "Refused: one goes on": in PHASE 1, 2 and 3; not behind a hand, however it ended. */
    private static void dealWhileOneGoesOn() {
        script("deal, PHASE 1").play("deal14 !deal14 !deal15");
        script("deal, PHASE 1 behind a claim").play("deal14 d33 t1 !deal14");
        script("deal, PHASE 2").play("deal14 d33 !deal14");
        script("deal, PHASE 3").play(ADDED + "!deal14");
        script("deal behind a draw that won").play("deal78981 w deal14");
        script("deal behind a discard that won").play("deal427 d1 c2 !deal14 p deal14");
        script("deal behind a hand that was given up").play("deal63 n deal14");
        script("deal behind a hand without a winner").play("deal7 x70").count(0, 0).play("deal14");
    }

    /** "or the GAME has ended": by POINTS below 0, or by the ROUND that would be 2. */
    private static void dealWhenTheGameHasEnded() {
        script("deal, POINTS below 0").play("deal78981 w deal78981 w").count(9, 1).play("!deal14 !deal78981");
        Script script = script("deal, ROUND 2");
        for (int i = 1; i <= 8; i++) {
            script.count(9, 0).play("deal325179 d5 c" + i % 4 + " p");
        }
        script.count(9, 1).play("!deal14");
    }

    private static void discardNotInPhase1() {
        script("discard, PHASE 0").play("!d0 !d33");
        // 0 has a second 19 and 1 has one, but nobody is to discard.
        script("discard, PHASE 2").play("deal14 d19").hand(0, 19, 1).hand(1, 19, 1).play("!d19 !b19 !d0");
        script("discard, PHASE 3").play(ADDED).hand(1, 2, 1).hand(1, 25, 2).play("!d2 !d25 !d33");
        script("discard, PHASE 0 behind a hand").play("deal63 n").hand(0, 0, 1).play("!d0");
    }

    /** "it has none": of no KIND, of a KIND that another SEAT has, of one that it laid down. */
    private static void discardHasNone() {
        Script script = script("discard, none").play("deal14").hand(0, 2, 0).hand(1, 2, 1).play("!d2");
        noSuchKind(script, "d#");
        noSuchKind(script, "b#");
        script("discard, its last one").play("deal14").hand(0, 5, 1).play("d5 p x3").count(1, 0).hand(0, 5, 0)
            .play("!d5");
        script("discard, a hidden FOUR").play("deal-6021044661905231204 h21 !d21 d25");
        // 1 claimed 33 in its last turn, and has the fourth in its hand now.
        script("discard, beside a THREE").play("deal14 d33 t1 d29 p d5 p d31 p d30 p d33 p x3").count(1, 1)
            .hand(1, 33, 0).play("!d33");
        script("discard, the first KIND").play("deal23 d0");
        script("discard, the last KIND").play("deal14 d33");
    }

    /** "a SEAT that is not OPEN"; a hidden FOUR is not OPEN. */
    private static void discardBetWhenOpen() {
        // 0 WAITS for 0 16 behind 8, and has claimed a THREE.
        script("a BET, OPEN").play("deal1330749734943419278 d30 p d18 p d29 p d17 p d27 p d15 p d8 p d25 p "
            + "d32 p d24 p d5 t0 !b8 d8").waits(0, 0, 16).seat(0, 1, 0);
        script("a BET, a hidden FOUR").play("deal104026 d14 p h11 b19").waits(1, 12, 15).seat(1, 1, 1).seat(1, 6, 0);
    }

    /** "has 1,000 POINTS": 1,000 are enough, 900 are not. */
    private static void discardBetWithoutPoints() {
        Script script = script("a BET, 1,000 POINTS").play("deal185104 x1 w deal185104 x1 w");
        script.seat(0, 0, 1000).play("deal-152562174784110982 d18 p d7 p").count(1, 0).play("b31 p");
        script.seat(0, 0, 0).count(5, 1).count(0, 1);
        script = script("a BET, 900 POINTS").play("deal185104 x1 w deal63 n deal185104 x1 w").seat(0, 0, 900);
        script.play("deal-152562174784110982 d18 p d7 p").count(1, 0).play("!b31 d31").seat(0, 1, 0);
    }

    /** "and WAITS behind it": not for a KIND of which it has all four itself. */
    private static void discardBetWithoutWaits() {
        script("a BET, no WAITS behind it").play("deal-4082346520297597401 !b3 !b28 b17").waits(0, 2, 5);
        // 1 2 3 4 5 6 14 15 16, and four of 19.
        script("a BET, all four").play("deal12479715").hand(0, 19, 4).play("!b25 d25").waits(0);
        // 4 4 4 4 6 6 6: a fifth 4 would do too, but there is none.
        script("a BET, all four of one").play("deal32511915 b33").hand(0, 4, 4).waits(0, 5);
    }

    /** "with four tiles or more to be drawn": four are enough, three are not. */
    private static void discardBetWithFewTiles() {
        Script script = script("a BET, four left").play("deal700628684273128378 d4 p d0 p x63");
        script.count(6, 4).count(1, 1).play("b" + script.house.count(12)).seat(1, 1, 1);
        script = script("a BET, three left").play("deal-152562174784110982 d18 p d7 p d31 p x63");
        script.count(6, 3).count(1, 2).play("!b" + script.house.count(12) + " d" + script.house.count(12));
        script.waits(2, 10, 13).seat(2, 1, 0);
    }

    /** "or made already": with the KIND that it drew, too. */
    private static void discardBetMadeAlready() {
        Script script = script("a second BET").play("deal-4082346520297597401 b17 p x3").count(1, 0);
        int drawn = script.house.count(12);
        script.play("!b" + drawn + " d" + drawn + " p").seat(0, 0, 24000).count(5, 1);
    }

    /** "by its BET it must lay another one": a tile of the KIND that it drew, nothing else. */
    private static void discardByItsBet() {
        Script script = script("by its BET").play("deal-4082346520297597401 b17 p x3").count(1, 0);
        int drawn = script.house.count(12);
        for (int kind = 0; kind < 34; kind++) {
            if (kind != drawn && script.house.hand(0, kind) > 0) {
                script.play("!d" + kind);
            }
        }
        script.play("d" + drawn);
    }

    /** "the KIND that it claimed": 3 has a third 15 in its hand. */
    private static void discardBehindThree() {
        script("behind a THREE").play("deal614962465766831483 d15 t3").hand(3, 15, 1).play("!d15 !b15 d5 p x3")
            .count(1, 3).play("d15");
    }

    /** "behind a RUN that it claimed the lowest or highest of, the one that would have made a RUN". */
    private static void discardBehindRun() {
        // Each RUN that there is, 1 having the KIND at its other end.
        String[] lowest = {"deal23 d0 r1.0", "deal11 d1 r1.1", "deal16 d2 r1.2", "deal77 d3 r1.3", "deal4 d4 r1.4",
            "deal0 d5 r1.5", "deal455 d9 r1.9", "deal429 d10 r1.10", "deal120 d11 r1.11", "deal31 d12 r1.12",
            "deal146 d13 r1.13", "deal100 d14 r1.14", "deal1 d18 r1.18", "deal70 d19 r1.19", "deal128 d20 r1.20",
            "deal5 d21 r1.21", "deal131 d22 r1.22", "deal24 d23 r1.23"};
        for (String calls : lowest) {
            Script script = script("the lowest").play(calls);
            otherEnd(script, script.house.laid(1, 0, 1) + 3);
        }
        String[] highest = {"deal168 d3 r1.1", "deal23 d4 r1.2", "deal11 d5 r1.3", "deal85 d6 r1.4", "deal20 d7 r1.5",
            "deal7 d8 r1.6", "deal13 d12 r1.10", "deal13 d13 r1.11", "deal414 d14 r1.12", "deal201 d15 r1.13",
            "deal31 d16 r1.14", "deal31 d17 r1.15", "deal84 d21 r1.19", "deal70 d22 r1.20", "deal70 d23 r1.21",
            "deal100 d24 r1.22", "deal118 d25 r1.23", "deal5 d26 r1.24"};
        for (String calls : highest) {
            Script script = script("the highest").play(calls);
            otherEnd(script, script.house.laid(1, 0, 1) - 1);
        }
    }

    /** Each KIND of the hand but this one, and the one that was claimed, may be discarded. */
    private static void otherEnd(Script script, int kind) {
        CHECK.yes("1 has " + kind, script.house.hand(1, kind) > 0);
        script.play("!d" + kind + " !b" + kind);
        int claimed = script.house.river(0, 0);
        script.play("!d" + claimed);
        int other = 0;
        while (other < 33 && (other == kind || other == claimed || script.house.hand(1, other) == 0)) {
            other++;
        }
        script.play("d" + other + " p");
    }

    /** The middle: what stands beside the RUN goes. Nor is there a KIND over the end of a suit. */
    private static void discardBesideRun() {
        script("the middle, below").play("deal16 d3 r1.2").hand(1, 1, 1).play("!d3 d1");
        script("the middle, above").play("deal16 d3 r1.2").hand(1, 5, 1).play("!d3 d5");
        script("the middle, the first KIND").play("deal4 d6 r1.5").hand(1, 0, 1).play("d0");
        script("7 of 7 8 9").play("deal10 d6 r1.6").hand(1, 9, 1).play("!d6 d9");
        script("7 of 7 8 9, a WIND").play("deal2 d24 r1.24").hand(1, 27, 2).play("!d24 d27");
        script("3 of 1 2 3").play("deal62 d11 r1.9").hand(1, 8, 2).play("!d11 d8");
        // What must not be discarded now may be, when it has drawn again.
        script("later").play("deal15 d4 r1.4").hand(1, 7, 1).play("!d7 d0 p x3").count(1, 1).play("d7");
    }

    /** Behind a FOUR it has drawn: any tile goes, the drawn one or another. */
    private static void discardBehindFour() {
        Script script = script("behind a FOUR").play("deal27 d30 f1");
        for (int kind = 0; kind < 34; kind++) {
            if (script.house.hand(1, kind) > 0) {
                script("behind a FOUR, " + kind).play("deal27 d30 f1 d" + kind);
            }
        }
    }

    /** "Refused: other PHASES". */
    private static void passInOtherPhases() {
        script("pass, PHASE 0").play("!p deal14").play("!p").count(0, 1);
        script("pass, PHASE 1 behind a claim").play("deal14 d33 t1 !p");
        script("pass, PHASE 1 behind a FOUR").play("deal27 d30 f1 !p");
        script("pass, PHASE 0 behind a hand").play("deal427 d1 c2 p !p");
    }

    /** "those who said so win; else the discard is over: the next SEAT draws, or the hand is over". */
    private static void passInPhase2() {
        script("pass, 2 said so").play("deal427 d1 c2 p").count(0, 0).count(11, 1).won(0, 2, 0);
        script("pass, nobody said so").play("deal427 d1 p").count(0, 1).count(1, 1).count(11, 0);
        script("pass, the next one of 3").play("deal14 x3").count(1, 3).play("x1").count(1, 0);
        script("pass, one tile left").play("deal7 x68").count(6, 1).play("x1").count(0, 1).count(6, 0);
        script("pass, no tile left").play("deal7 x69").count(6, 0).play("x1").count(0, 0).count(11, 0).count(10, 1);
    }

    /** "behind an added tile its SEAT draws behind the FOUR"; or who said so wins. */
    private static void passInPhase3() {
        Script script = script("pass, an added tile").play(ADDED).count(7, 0).count(8, 1).play("p");
        script.count(0, 1).count(1, 1).count(12, script.house.wall(122)).count(7, 1).count(8, 2);
        script("pass, a robbed tile").play("deal8388691691443010381 d8 p d6 p d3 p d14 t2 d28 p d15 p d9 p d1 p "
            + "d29 p d25 t0 d29 p d22 p a14 c0 p").count(0, 0).count(7, 0).count(8, 1).laid(2, 0, 2, 14);
    }

    private static void hideNotInPhase1() {
        Script script = script("hide, PHASE 0").play("!h21 deal-6021044661905231204").hand(0, 21, 4);
        script.play("d25").hand(0, 21, 4).play("!h21 p !h21");
        script("hide, PHASE 0 behind a hand").play("deal25438 n").hand(0, 3, 4).play("!h3");
    }

    /** "it claimed just now": a RUN or a THREE; behind a FOUR it drew. */
    private static void hideBehindClaim() {
        script("hide behind a claim").play("deal7594955257852190972 d33 t1").hand(1, 18, 4).play("!h18 d"
            + other("deal7594955257852190972 d33 t1", 1) + " p x3").count(1, 1).play("h18");
    }

    /** A KIND that a SEAT could discard, not one of four. */
    private static int other(String calls, int seat) {
        Script script = script("other").play(calls);
        int kind = 0;
        while (kind < 33 && (script.house.hand(seat, kind) == 0 || script.house.hand(seat, kind) == 4)) {
            kind++;
        }
        return kind;
    }

    private static void hideWithBet() {
        script("hide with a BET").play("deal-5348581569865728475 d5 p d13 p d15 p d23 p d27 p b33 p d2 t3 d32 p "
            + "d12 p").seat(1, 1, 1).hand(1, 16, 4).play("!h16");
    }

    /** "has not four": three are not enough, nor are three that are laid down and one. */
    private static void hideHasNotFour() {
        Script script = script("hide, three").play("deal3").hand(0, 17, 3).play("!h17");
        noSuchKind(script, "h#");
        script("hide, a THREE laid down").play("deal14 d33 t1 d29 p d5 p d31 p d30 p").hand(1, 33, 1).play("!h33");
        script("hide, four").play("deal-6021044661905231204 h21").hand(0, 21, 0).laid(0, 0, 3, 21);
    }

    /** "no tile left to be drawn": with one left it goes, and none is left then. */
    private static void hideNoTileLeft() {
        script("hide, none left").play("deal421 x69").count(6, 0).hand(1, 26, 4).play("!h26");
        Script script = script("hide, one left").play("deal555 x68").count(6, 1).hand(0, 30, 4).play("h30");
        script.count(6, 0).count(7, 1).count(12, script.house.wall(122)).count(0, 1);
    }

    private static void hideFourFours() {
        script("a fifth, hidden").play("deal4444957694299120813 d22 p d1 p d21 p d25 p d28 t2 "
            + "d18 p d24 p d18 p d8 p d20 p d14 p d2 p d22 p d9 p h11 d17 p d18 p d8 p d27 p d22 p d33 "
            + "t1 d29 p d29 p d1 p d8 p a33 p d10 p d30 p d9 p d31 p d30 p d7 f1 d21 p d5 p d32 p d21 "
            + "p d9 p d10 p d3 t0 d32 p d30 p d12 p d24 p d14 p d19 p d19 p").count(7, 3).play("h6").count(7, 4)
            .play("d17 p d14 p d28 p d5 p d20 p d19 p d1 p d10 p d31 t0 d21 p d13 p d32 p d25 p d26 p d25 p !h23");
    }

    private static void addNotInPhase1() {
        script("add, PHASE 0").play("!a33 deal14 d33 !a33 t1");
        // 1 has the fourth 33, throws another tile, and may not add it any more.
        script("add, PHASE 2").play("deal14 d33 t1 d29 p d5 p d31 p d30 p d2").hand(1, 33, 1).play("!a33 p !a33");
        script("add, PHASE 3").play(ADDED + "!a33");
    }

    private static void addBehindClaim() {
        script("add behind the claim").play("deal4384980734555501908 d8 t3").hand(3, 8, 1).play("!a8 d"
            + other("deal4384980734555501908 d8 t3", 3) + " p x3").count(1, 3).hand(3, 8, 1).play("a8");
    }

    private static void addHasNone() {
        noSuchKind(script("add, no KIND").play("deal14 d33 t1 d29 p x3"), "a#");
        script("add, none of it").play("deal0 d31 t1").hand(1, 31, 0).play("!a31 d"
            + other("deal0 d31 t1", 1) + " p x3").count(1, 1).hand(1, 31, 0).play("!a31");
    }

    /** "a THREE that it claimed": no RUN, wherever it has the KIND, no hidden THREE, no other's. */
    private static void addNoThree() {
        script("add, the lowest of a RUN").play("deal15631 d3 r1.2 d17 t0 d27 p").hand(1, 2, 1).laid(1, 0, 0, 2)
            .play("!a2");
        script("add, the middle of a RUN").play("deal32729 d1 r1.1 d15 f0 d24 p").hand(1, 2, 1).play("!a2");
        script("add, the highest of a RUN").play("deal70199 d4 r1.3 d32 t0 d11 p").hand(1, 5, 1).play("!a5");
        // 0 claimed a THREE of 27 in the hand before.
        script("add, an earlier hand's THREE").play("deal246 d15 p d17 p d27 t0 d1 p d31 c0 p").laid(0, 0, 1, 27)
            .play("deal63").hand(0, 27, 1).laid(0, 0, -1, -1).play("!a27");
        script("add, in the hand").play("deal3").hand(0, 17, 3).play("!a17");
        script("add, four in the hand").play("deal-6021044661905231204").hand(0, 21, 4).play("!a21");
    }

    private static void addNoTileLeft() {
        script("add, none left").play("deal36 x1 d14 t2 d3 p x67").count(6, 0).count(1, 2).hand(2, 14, 1)
            .laid(2, 0, 1, 14).play("!a14");
        Script script = script("add, one left").play("deal110 d24 t1 d0 p x67").count(6, 1).hand(1, 24, 1);
        script.play("a24").count(0, 3).count(6, 1).play("p").count(0, 1).count(6, 0);
        script.count(12, script.house.wall(122));
    }

    private static void addFourFours() {
        script("a fifth, added").play("deal1675817529717765701 d32 p d26 p d7 p d29 f0 d22 p "
            + "d8 p d4 p d9 p d6 p d33 p d6 p d18 p d19 p d16 p d31 t3 d15 r0.14 d22 p d1 p d1 p d11 p "
            + "d27 p d33 p d22 p d2 p d10 p d19 p d17 p d30 p d2 p d24 p d10 p d33 p d26 t3 d32 p d18 "
            + "p d8 p d25 p d7 p d3 p d4 p h20 d7 p d30 p d13 p d21 p d33 p d5 f2 d32 p d0").count(7, 3)
            .play("f0").count(7, 4).play("d8 p d23 p d14 p").hand(3, 31, 1).laid(3, 0, 1, 31).play("!a31");
    }

    private static void winNotInPhase1() {
        script("win, PHASE 0").play("!w");
        // 0 had HEAVEN: not when it has discarded.
        Script script = script("win, PHASE 2").play("deal78981");
        script.play("d" + script.house.count(12) + " !w");
        script("win, PHASE 3").play(ADDED + "!w");
        script("win, PHASE 0 behind a hand").play("deal78981 w !w");
    }

    /** "it claimed just now": the hand is FULL by the SET, and worth something. */
    private static void winBehindClaim() {
        script("win behind a RUN").play("deal6131 d27 t3 d14 p d7 p d32 p d23").waits(3, 23, 26)
            .play("r3.23 !w").has(3, 5, 6, 7, 8, 8, 8, 28, 28);
        script("win behind a THREE").play("deal246 d15 p d17 p d27 t0 d1 p d31").waits(0, 19, 31)
            .play("t0 !w").has(0, 4, 5, 6, 14, 15, 16, 19, 19);
        // Behind a FOUR that it claimed it drew.
        script("win behind a FOUR").play("deal7565978298731794306 d12 p d17 p d24 p d6 p d11 p d16 p d28 p d9 t0 "
            + "d18 p d8 p d16 p d32 p d27 f2 w").forms(0, 6, 15);
    }

    private static void winNotFull() {
        script("win, not FULL").play("deal14 !w");
        // Six PAIRS and three of 32 but no seventh.
        script("win, not seven PAIRS").play("deal45755 !w");
    }

    /** "or worth nothing": OPEN, its own DRAW is no FORM then. */
    private static void winWorthNothing() {
        script("win, worth nothing").play("deal124469 d27 p d14 t0 d19 p x1 d32 p d29 p").has(0, 1, 2, 2, 3, 3, 4, 5,
            6, 7, 29, 29).laid(0, 0, 1, 14).play("!w d4");
    }

    private static void nineNotInPhase1() {
        script("nine, PHASE 0").play("!n");
        script("nine, PHASE 2").play("deal63 d6 !n");
        script("nine, PHASE 0 behind a hand").play("deal63 n !n");
    }

    /** "by who is to make its first discard": each SEAT in its first turn, none in its second. */
    private static void nineFirstDiscard() {
        script("nine, 0").play("deal63 n").count(10, 1);
        script("nine, 1").play("deal1163 x1 n").count(10, 1);
        script("nine, 2").play("deal8980 x2 n").count(10, 1);
        script("nine, 3").play("deal15198 x2 d1 p n").count(10, 1);
        script("nine, its second discard").play("deal63 d6 p x3").count(1, 0).play("!n");
    }

    /** "nine or more different ENDS": eight are not enough, whatever comes twice. */
    private static void nineDifferentEnds() {
        script("eight").play("deal1 !n");
        script("eight, 1").play("deal667 x1 !n");
        script("eight, 2").play("deal3027 x2 !n");
        script("eight, 3").play("deal153081 x3 !n");
        // 0 8 9 17 18 26 26 27 28 29: ten tiles, nine KINDS.
        script("nine").play("deal63").hand(0, 26, 2).play("n").count(4, 1).count(11, 0);
        script("ten").play("deal1862 n").count(4, 1);
        script("eleven").play("deal26369 n").count(4, 1);
    }

    private static void nineSetClaimed() {
        // 2 has 0 17 18 26 28 29 30 32 33.
        script("nine, a SET was claimed").play("deal12191 d2 r1.0 d26 p").seat(2, 4, 0).play("!n");
        script("nine, none was claimed").play("deal12191 d2 p x1").count(1, 2).hand(2, 33, 1);
    }

    private static void nineFourMade() {
        // 3 has 0 9 17 18 27 29 30 31 32.
        script("nine, a FOUR was made").play("deal134414 d8 f1 d22 p d18 p").seat(3, 4, 0).count(7, 1).play("!n");
        // 0 has 0 17 18 26 28 29 30 32 33, and hides 3.
        script("nine, its own FOUR").play("deal25438 h3 !n");
        script("nine, instead of the FOUR").play("deal25438 n");
    }
}
