/** Promises 10, 11, 18 and 19: wins by draws and by others' tiles, and what is paid for them. */
public final class WinTest {
    private static final Check CHECK = new Check("WinTest");

    private static final String PAIRS = "deal-953511006751253465 d22 ";
    private static final String TWO = "deal8190872610450340177 d26 p d30 p d8 p d8 p d15 p d14 p d33 "
        + "p d28 p d16 p d12 p d16 p d14 p d19 ";

    public static void main(String[] args) {
        byDraw();
        firstDraws();
        lastOnes();
        byDiscard();
        several();
        stays();
        nothingToWin();
        dearTiles();
        laterHands();
        CHECK.end();
    }

    private static void byDraw() {
        // FIRST BET, AT ONCE, DRAWN; one dear tile: 6 behind the SIGN 5; 18 20 waited for 19.
        Script script = new Script(CHECK, "the DEALER draws").play("!w deal6738866410683452787 !w b30 !w "
            + "p d14 p d9 p d22 p w !w").forms(0, 1, 2, 3);
        script.won(0, 0, -1, 2000, 5, 30, 13000, 19).points(37000, 21000, 21000, 21000);
        script.hand(0, 19, 1).seat(0, 7, 0).seat(0, 1, 2).count(11, 1).count(5, 0).waits(0);
        // BEHIND A FOUR that was claimed, ROUND's WIND, one dear tile; DEALER pays twice.
        script = new Script(CHECK, "another draws").play("deal7565978298731794306 d12 p d17 p d24 p d6 p "
            + "d11 p d16 p d28 p d9 t0 d18 p d8 p d16 p d32 p d27 f2 w").forms(0, 6, 15);
        script.won(0, 2, -1, 1280, 3, 40, 5200, 21).points(22400, 23700, 30200, 23700);
        script.count(2, 1).count(4, 0).count(3, 0).count(10, 1);
        // Behind a hidden FOUR; the SIGN that it opened makes all of it dear.
        new Script(CHECK, "behind a hidden FOUR").play("deal9128188919949077610 d30 p d16 t3 d26 t1 d1 p "
            + "d31 p d15 p d2 p d32 t0 d5 p d27 t2 d8 p d27 p d31 p d18 p d3 p d21 p d22 p a26 p d17 p "
            + "d24 r3.23 d4 p d3 p d8 p d12 p d15 p d23 p h6 w").forms(0, 6)
            .won(0, 1, -1, 2000, 5, 60, 8000, 7).points(21000, 33000, 23000, 23000);
    }

    private static void firstDraws() {
        Script script = new Script(CHECK, "HEAVEN").play("deal78981 w").forms(0, 42);
        script.won(0, 0, -1, 8000, 13, 25, 48000, 22).points(73000, 9000, 9000, 9000).count(4, 1);
        script = new Script(CHECK, "EARTH").play("deal185104 d6 p w").forms(0, 43);
        script.won(0, 1, -1, 8000, 13, 40, 32000, 3).points(9000, 57000, 17000, 17000).count(2, 1);
    }

    private static void lastOnes() {
        // DRAWN, LAST DRAW, like RUNS, two dear tiles.
        Script script = new Script(CHECK, "LAST DRAW").play("deal9 d31 p d5 p d3 p d9 p d25 p d10 p d8 p "
            + "d11 p d4 p d27 p d16 p d28 p d31 p d18 p d29 p d5 p d27 p d26 p d33 p d8 p d29 p d29 p "
            + "d28 p d20 p d30 p d25 p d31 p d18 p d32 p d31 p d26 p d22 p d20 p d7 p d32 p d5 p d29 p "
            + "d0 p d12 p d17 p d21 p d9 p d7 p d27 p d24 p d8 p d30 p d32 p d22 p d12 p d19 p d4 p d22 "
            + "p d2 p d20 p d8 p d33 p d4 p d28 p d24 p d6 p d21 p d4 p d3 p d32 p d20 p d15 p d1 p d28 "
            + "p").count(6, 0).play("w").forms(0, 3, 4, 10).won(0, 1, -1, 2000, 5, 30, 8000, 6);
        script = new Script(CHECK, "LAST TILE").play(ClaimTest.TO_LAST_DISCARD + "d3 c0 p");
        script.forms(0, 5, 8).won(0, 0, 1, 1280, 3, 40, 7700, 3).points(32700, 17300, 25000, 25000);
        // BET, LAST TILE, two tiles behind a SIGN, one behind a HIDDEN SIGN.
        new Script(CHECK, "LAST TILE with a BET").play("deal200245448712001187 d3 p d33 p d29 p d28 p d30 "
            + "p d28 p d16 p d33 p d31 p d9 p d27 p d27 p d32 p d7 p d15 p d10 p d5 p d27 p d9 p d6 p d0 "
            + "p d16 p d8 p d12 p d27 p d17 p d25 p d0 p d8 p d7 p d26 p d16 p d23 p d14 p d19 p d24 p "
            + "d28 p d11 p d32 p d17 p d14 p d5 p d15 p d7 p d1 p d31 p d4 p d6 p d17 p d22 p d5 p h2 d3 "
            + "p d13 p d10 p d33 p d19 p d6 p d7 p d13 p b1 p d8 p d15 p d5 p d28 p d6 p d13 p d18 p d26 "
            + "p d29 c3 p").forms(0, 0, 5).won(0, 3, 0, 2000, 5, 60, 9000, 29)
            .points(17000, 25000, 25000, 33000);
    }

    private static void byDiscard() {
        // Seven PAIRS with two dear tiles, by the DEALER's first discard.
        Script script = new Script(CHECK, "by a discard").play("!c1 deal-953511006751253465 !c1 d22");
        script.waits(1, 22).play("!c0 !c2 !c3 !c4 !c-1 !c2147483647 c1 !c1").seat(1, 7, 1).count(0, 2);
        script.points(25000, 25000, 25000, 25000).count(11, 0).play("p !p").count(0, 0).count(12, -1);
        script.forms(0, 16).won(0, 1, 0, 1600, 4, 25, 6400, 22).points(18600, 31400, 25000, 25000);
        script.hand(1, 22, 1).waits(1, 22).seat(0, 4, 1).won(1, -1, -1).won(-1, -1, -1).forms(1).forms(-1);
        // FLAT by the next SEAT's discard, to the DEALER: 6 times 240, up to the next 100.
        script = new Script(CHECK, "to the DEALER").play("deal6036871744312458457 d11 p d19 c0 p");
        script.forms(0, 9).won(0, 0, 1, 240, 1, 30, 1500, 19).count(2, 0).count(4, 1);
        // Passed over: no one is asked twice.
        script = new Script(CHECK, "nobody says so").play(PAIRS + "p").count(0, 1).seat(1, 2, 0);
    }

    private static void several() {
        // 1 and 3 wait for 19; both are FLAT, 1 has a dear tile.
        Script script = new Script(CHECK, "two win").play(TWO + "c3 c1 p").count(11, 2);
        script.won(0, 1, 0, 480, 2, 30, 2000, 19).won(1, 3, 0, 240, 1, 30, 1000, 19).forms(0, 9);
        script.forms(1, 9).points(22000, 27000, 25000, 26000).seat(1, 7, 1).seat(3, 7, 1).won(2, -1);
        script = new Script(CHECK, "one of them wins").play(TWO + "c3 p").count(11, 1);
        script.won(0, 3, 0, 240, 1, 30, 1000, 19).seat(1, 7, 0).seat(1, 2, 0);
        // STAYS 1: its 300 go to the first behind who pays alone.
        script = new Script(CHECK, "two win, STAYS 1").play("deal33705604014929126 n").count(4, 1);
        script.play(TWO + "c3 c1 p").won(0, 1, 0, 480, 2, 30, 2300, 19);
        script.won(1, 3, 0, 240, 1, 30, 1000, 19).count(4, 0).count(2, 1);
        // In the order behind who pays: 3 throws, 0 (the DEALER's next is 0) comes first.
        script = new Script(CHECK, "order").play(PAIRS + "c1 p deal-953511006751253465 d22 c2 p");
        script.count(2, 2).play("deal8190872610450340177 d26 p d30 p d8 p d8 p d15 p d14 p d33 p d28 p "
            + "d16 p d12 p d16 p d14 p d19 !c0 c1 c3 p");
        script.won(0, 3, 2, 480, 2, 30, 2000, 19).won(1, 1, 2, 240, 1, 30, 1000, 19);
    }

    private static void stays() {
        // The DEALER wins again and again: 1,500, then 300 more each time, till 1 has less than 0.
        Script script = new Script(CHECK, "STAYS");
        int paid = 0;
        for (int stays = 0; stays < 10; stays++) {
            script.count(4, stays).play("deal6036871744312458457 d11 p d19 c0 p");
            paid += 1500 + 300 * stays;
            script.won(0, 0, 1, 240, 1, 30, 1500 + 300 * stays, 19).points(25000 + paid, 25000 - paid,
                25000, 25000);
        }
        script.count(9, 1).count(10, 10).count(4, 9).count(2, 0).play("!deal6036871744312458457");
        // By a draw each pays 100 more.
        script = new Script(CHECK, "STAYS and a draw").play("deal33705604014929126 n deal185104 d6 p w");
        script.won(0, 1, -1, 8000, 13, 40, 32300, 3).points(8900, 57300, 16900, 16900).count(4, 0);
    }

    private static void nothingToWin() {
        // 0 waits for 11 14, OPEN and without any FORM; as 2 throws 14 it is refused, and lets go.
        Script script = new Script(CHECK, "no FORM").play("deal8388691691443010381 d8 p d6 p d3 p d14 t2 "
            + "d28 p d15 p d9 p d1 p d29 p d25 t0 d29 p d22 p").waits(0, 11, 14).waits(2);
        script.play("!w d14").seat(0, 2, 0).play("!c0 p").seat(0, 2, 1);
    }

    /** Behind the last of a suit, of the WINDS, of the DRAGONS the first is dear. */
    private static void dearTiles() {
        dear("deal-5909911554211021908 d1 p d28 p d9 p d29 p d30 p d30 p "
            + "d14 p d22 p d3 p d25 p d24 c1 p", 3, 15, 1);
        dear("deal-537230785749948347 d28 p d26 p d29 p d30 p d30 p d29 p "
            + "d3 p d28 p d27 p d18 p d14 p d26 p d15 p d10 c2 p", 3, 11, 1);
        dear("deal-9210070127743339326 d26 p d0 t2 d32 p d1 p d33 p d23 p "
            + "d2 p d30 p w", 1, -1, 2);
        dear("deal1776780961142157287 d24 p d26 p d12 p d27 p d9 p d21 p "
            + "d31 p d29 t1 d15 p w", 2, -1, 1);
        dear("deal3749679868375574387 d9 p d32 p d20 p d22 p d30 p d29 p "
            + "d22 p d4 p d17 p d5 c0 p", 1, -1, 1);
        // BET, the SEAT's WIND, a dear tile; no AT ONCE behind the FOUR, nor is 2 BEHIND A FOUR.
        new Script(CHECK, "behind another's FOUR").play("deal3254217103185153735 d18 p d0 p d17 p d27 p d33 p d30 p "
            + "b10 p h1 d20 c2 p")
            .forms(0, 0, 14).won(0, 2, 3, 1280, 3, 40, 6200, 20).points(25000, 25000, 30200, 19800);
        // FIRST BET, FLAT, a HIDDEN SIGN 26: one 18 is dear.
        new Script(CHECK, "a HIDDEN SIGN").play("deal-5913967130633892212 d5 p b30 p d31 p d9 p d30 p d7 p "
            + "d3 p d18 c1 p")
            .forms(0, 1, 9).won(0, 1, 3, 1920, 4, 30, 8700, 18);
    }

    /** HAN is that of the FORMS, and one for each dear tile. */
    private static void dear(String calls, int tiles, int form, int han) {
        Script script = new Script(CHECK, "dear tiles").play(calls);
        CHECK.due(calls + ": HAN", script.house.won(0, 3), han + tiles);
        CHECK.due(calls + ": FORM", form < 0 || (script.house.forms(0) >> form & 1) == 1, true);
    }

    /** Nothing of an earlier hand counts in a later one. */
    private static void laterHands() {
        // SETS were claimed and FOURS made in the first hand: the next is new.
        Script script = new Script(CHECK, "HEAVEN later").play("deal7565978298731794306 d12 p d17 p d24 p d6 p "
            + "d11 p d16 p d28 p d9 t0 d18 p d8 p d16 p d32 p d27 f2 w").count(7, 1).count(8, 2);
        script.play("deal78981").count(7, 0).count(8, 1).count(6, 69).play("w").forms(0, 42);
        // EARTH is not, when a SET was claimed.
        script = new Script(CHECK, "no EARTH").play("deal669692 d14 t2 d0 p w").forms(0, 3, 15);
        script.won(0, 3, -1, 640, 2, 40, 2700, 24).points(23700, 24300, 24300, 27700);
        // 2 wins AT ONCE, and in the next hand without a BET.
        script = new Script(CHECK, "no AT ONCE").play("deal-7103284216992910152 d16 p d21 p b5 p d21 c2 p");
        script.forms(0, 1, 2, 11).won(0, 2, 3, 2000, 4, 40, 9000, 21);
        script.play("deal-953511006751253465 d22").seat(2, 1, 0).play("c2 p").forms(0, 16);
        // ROUND 1: 27 is the ROUND's WIND no more.
        script = new Script(CHECK, "ROUND 1");
        for (int i = 0; i < 4; i++) {
            script.play("deal-953511006751253465 d22 c" + (i + 1) % 4 + " p");
        }
        script.count(3, 1).count(2, 0).play("deal7565978298731794306 d12 p d17 p d24 p d6 p d11 p d16 p d28 p "
            + "d9 t0 d18 p d8 p d16 p d32 p d27 f2 w").forms(0, 6).won(0, 2, -1, 640, 2, 40, 2700, 21);
    }
}
