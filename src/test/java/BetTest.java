/** BETS and LETTING GO (Terms 3; promises 3, 4, 11, 16, 17). */
public final class BetTest {
    private static final Check CHECK = new Check("BetTest");

    public static void main(String[] args) {
        betting();
        wonBy();
        mustThrowWhatItDrew();
        thousandPoints();
        fourTilesLeft();
        letGo();
        letGoWithBet();
        ownDiscards();
        claimantLetsGo();
        CHECK.end();
    }

    private static void betting() {
        // Behind 17 the hand waits for 2 5; behind 3 it does not.
        Script script = new Script(CHECK, "a BET").play("deal-4082346520297597401 !b3 !b28 !b0 !b34 !b-1 b17");
        script.seat(0, 1, 2).count(5, 0).points(25000, 25000, 25000, 25000).waits(0, 2, 5).play("p");
        script.points(24000, 25000, 25000, 25000).count(5, 1).play("d5 c0 p").forms(0, 1, 2, 9);
        script.won(0, 0, 1, 2000, 5, 30, 13000, 5).points(37000, 13000, 25000, 25000).count(5, 0);
        // The first discard of 1, nothing claimed: also a FIRST BET, though it is not the DEALER.
        new Script(CHECK, "1 bets first").play("deal700628684273128378 d4 p b0").seat(1, 1, 2);
        // A later discard.
        new Script(CHECK, "later").play("deal7467952719035169308 d27 p d32 p d17 p d3 p b29").seat(0, 1, 1);
        // OPEN hands make none, though 0 waits for 0 16 behind 8.
        new Script(CHECK, "OPEN").play("deal1330749734943419278 d30 p d18 p d29 p d17 p d27 p d15 p d8 p "
            + "d25 p d32 p d24 p d5 t0 !b8 d8").waits(0, 0, 16);
    }

    private static void wonBy() {
        // 1 bets with the 7 that 3 waits for: its 1,000 stay with it.
        Script script = new Script(CHECK, "won by").play("deal9047068871129210606 d14 p d4 p d9 p d5 p d10 p "
            + "d3 p d27 p d33 p d27 p d5 p d31 p d26 p d22 p d20 p d9 p d29 p d32 p b7 c3 p");
        script.won(0, 3, 1, 400, 2, 25, 1600, 7).points(25000, 23400, 25000, 26600).count(5, 0);
        script.seat(1, 1, 1).seat(3, 7, 1);
    }

    private static void mustThrowWhatItDrew() {
        Script script = new Script(CHECK, "only what it drew").play("deal7467952719035169308 d27 p d32 p d17 p "
            + "d3 p b29 p d24 p d21 p").count(1, 3);
        script.play("d" + script.house.count(12) + " p").count(1, 0);
        int drawn = script.house.count(12);
        for (int kind = 0; kind < 34; kind++) {
            if (kind != drawn) {
                script.play("!d" + kind);
            }
        }
        script.play("!b" + drawn + " d" + drawn).seat(0, 1, 1);
    }

    /** EARTH twice takes 24,000 from the first DEALER, and 24,100 when STAYS is 1 once. */
    private static void thousandPoints() {
        Script script = new Script(CHECK, "1,000 POINTS").play("deal185104 d6 p w deal185104 d6 p w");
        script.points(1000, 41000, 49000, 9000).count(2, 2).play("deal-152562174784110982 d18 p d7 p");
        script.count(1, 0).play("b31").seat(0, 0, 1000).play("p").seat(0, 0, 0).count(5, 1).count(9, 0);
        script = new Script(CHECK, "900 POINTS").play("deal185104 d6 p w deal33705604014929126 n");
        script.play("deal185104 d6 p w").seat(0, 0, 900).count(2, 2);
        script.play("deal-152562174784110982 d18 p d7 p !b31 d31 p").seat(0, 0, 900).count(5, 0);
    }

    /** A SEAT waits from its first discard on, throws what it draws, and bets as late as can be. */
    private static void fourTilesLeft() {
        lastTurns("deal-4082346520297597401 d17 p", 0, 5);
        lastTurns("deal-4082346520297597401 d17 p", 0, 1);
        lastTurns("deal700628684273128378 d4 p d0 p", 1, 4);
        lastTurns("deal700628684273128378 d4 p d0 p", 1, 0);
        lastTurns("deal-152562174784110982 d18 p d7 p d31 p", 2, 3);
    }

    private static void lastTurns(String start, int seat, int left) {
        Script script = new Script(CHECK, seat + " bets with " + left + " left").play(start);
        while (script.house.count(1) != seat || script.house.count(6) > left) {
            script.play("d" + script.house.count(12) + " p");
        }
        int drawn = script.house.count(12);
        script.count(6, left).play(left >= 4 ? "b" + drawn : "!b" + drawn + " d" + drawn);
        script.seat(seat, 1, left >= 4 ? 1 : 0);
    }

    private static void letGo() {
        // 0 waits for 4 7. 2 throws 4, 0 says nothing, so it must not claim the 7 of 3.
        Script script = new Script(CHECK, "let go").play("deal1980887079960266112 d21 p d8 p d4").seat(0, 2, 0);
        script.play("p").seat(0, 2, 1).seat(1, 2, 0).seat(2, 2, 0).seat(3, 2, 0).play("d7 !c0 p");
        script.count(1, 0).seat(0, 2, 0).waits(0);
        // 3 let something go, drew, and may claim again.
        script = new Script(CHECK, "claims again").play("deal-7381562817977547593 d0 p d1 p d19 p d32 p d19 p "
            + "d2 p d25 p").seat(3, 2, 0).play("d33 p d21 p d22 c3").seat(3, 7, 1);
    }

    private static void letGoWithBet() {
        Script script = new Script(CHECK, "to the hand's end").play("deal7467952719035169308 d27 p d32 p d17 p "
            + "d3 p b29 p d24").waits(0, 21, 24).seat(0, 2, 0).play("p").seat(0, 2, 1).play("d21 !c0 p");
        script.play("d" + script.house.count(12) + " p").count(1, 0).seat(0, 2, 1);
        script.play("d" + script.house.count(12) + " p").seat(0, 2, 1).waits(0, 21, 24);
    }

    private static void ownDiscards() {
        // 0 waits for 15 and threw one: it has not LET GO, but wins by its own draws alone.
        new Script(CHECK, "its own discard").play("deal-6848420535808453809 d32 p d33 p d11 p d13 p d23 p d29 p "
            + "d30 p d12 p d15 p d15").waits(0, 15).seat(0, 2, 0).play("!c0 p").seat(0, 2, 1);
    }

    private static void claimantLetsGo() {
        // 2 waits for 4 and takes it for a RUN: it has let go up to its next draw.
        Script script = new Script(CHECK, "takes it for a RUN").play("deal-6463917460863299353 d6 p d3 p d4 p "
            + "d21 p d0 p d11 p d13 p d33 p d25 p d4 r2.2").seat(2, 2, 1).seat(0, 2, 0);
        // As a FOUR it draws at once.
        script = new Script(CHECK, "takes it for a FOUR").play("deal1330749734943419278 d30 p d18 p d29 p d17 p "
            + "d27 p d15 p d8 p d25 p d32 p d24 p d5 t0 d8 p d16").waits(0, 0, 16).play("f0").seat(0, 2, 0);
        script = new Script(CHECK, "takes it for a THREE").play("deal7692615346210721916 d13 p d31 p d32 p d7 "
            + "t0 d32 p d6 p d5 p d19 p d9 p d12 t0").seat(0, 2, 1);
    }
}
