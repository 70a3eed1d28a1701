import java.math.BigInteger;

/** Terms 1, a test for each sentence with an edge: the WALL's ends, FOURS, SIGNS, what is dear. */
public final class WallEdgeTest {
    private static final Check CHECK = new Check("WallEdgeTest");
    private static final String FOUR_FOURS = "deal1480192573074383775 d12 p d30 p d32 t3 d25 p d3 p "
        + "d27 p d30 p d7 p d16 p d33 p d28 p d13 p d33 p d28 p d30 p a32 p d0 p d9 p d3 p d4 p d10 "
        + "p d8 f1 d16 p h18 d16 p d22 p d9 p d12 p d19 p h29 ";

    public static void main(String[] args) {
        numbersGoRound();
        nextOfThree();
        winds();
        dealtFromTheDealerOn();
        lastDraw();
        behindFours();
        signs();
        robbedIsNotMade();
        dearBehindTheLast();
        dearLaidDown();
        eachSignCounts();
        hiddenSigns();
        CHECK.end();
    }

    private static Script script(String name) {
        return new Script(CHECK, name);
    }

    /** "64 bits, going round ... shifted right by 33, without sign": told with unbounded numbers. */
    private static void numbersGoRound() {
        BigInteger two64 = BigInteger.ONE.shiftLeft(64);
        BigInteger times = new BigInteger("6364136223846793005");
        BigInteger more = new BigInteger("1442695040888963407");
        // With this seed x is 0 at first, and 2 to the 64 less 1 with the other.
        long zero = more.negate().multiply(times.modInverse(two64)).mod(two64).longValue();
        long ones = more.add(BigInteger.ONE).negate().multiply(times.modInverse(two64)).mod(two64).longValue();
        for (long seed : new long[] {0, 1, -1, Long.MIN_VALUE, Long.MAX_VALUE, zero, ones, 1L << 33, -1L >>> 31}) {
            int[] tiles = new int[136];
            for (int i = 0; i < 136; i++) {
                tiles[i] = i;
            }
            BigInteger x = BigInteger.valueOf(seed).mod(two64);
            for (int i = 135; i >= 1; i--) {
                x = x.multiply(times).add(more).mod(two64);
                int j = x.shiftRight(33).mod(BigInteger.valueOf(i + 1)).intValue();
                int tile = tiles[i];
                tiles[i] = tiles[j];
                tiles[j] = tile;
            }
            TileHouse house = new TileHouse();
            house.deal(seed);
            for (int place = 0; place < 136; place++) {
                CHECK.due("wall(" + place + ") of " + seed, house.wall(place), tiles[place] / 4);
            }
        }
    }

    /** "the next one of 3 is 0". */
    private static void nextOfThree() {
        script("draws").play("deal0 x3").count(1, 3).play("x1").count(1, 0);
        script("claims").play("deal0 x3 d5 r0.3").count(1, 0);
        Script script = script("DEALERS");
        for (int i = 1; i <= 4; i++) {
            script.count(2, i - 1).play("deal325179 d5 c" + i % 4 + " p");
        }
        script.count(2, 0);
    }

    /** "WIND of a SEAT is how many SEATS it is behind the DEALER." */
    private static void winds() {
        Script script = script("winds");
        for (int dealer = 0; dealer < 4; dealer++) {
            for (int seat = 0; seat < 4; seat++) {
                script.seat(seat, 3, (seat + 4 - dealer) % 4);
            }
            script.play("deal325179").seat(dealer, 3, 0).seat((dealer + 3) % 4, 3, 3);
            script.play("d5 c" + (dealer + 1) % 4 + " p");
        }
    }

    /** "SEATS from the DEALER on get places 0 .. 12, ..": the DEALER is 3. */
    private static void dealtFromTheDealerOn() {
        Script script = script("dealt");
        for (int i = 1; i <= 3; i++) {
            script.play("deal325179 d5 c" + i + " p");
        }
        script.count(2, 3).play("deal99");
        int[] first = {13, 26, 39, 0};
        for (int seat = 0; seat < 4; seat++) {
            int[] want = new int[34];
            for (int place = first[seat]; place < first[seat] + 13; place++) {
                want[script.house.wall(place)]++;
            }
            want[script.house.wall(52)] += seat == 3 ? 1 : 0;
            for (int kind = 0; kind < 34; kind++) {
                script.hand(seat, kind, want[kind]);
            }
        }
        script.count(1, 3).count(12, script.house.wall(52));
    }

    /** "from place 52 on, up to place 121 less the FOURS made". */
    private static void lastDraw() {
        Script script = script("no FOUR").play("deal7").count(12, wall("deal7", 52)).count(6, 69);
        script.play("x69").count(6, 0).count(12, script.house.wall(121)).play("x1").count(0, 0);
        script = script("one FOUR").play("deal27 d30 f1").count(6, 68).play("x68").count(6, 0);
        script.count(12, script.house.wall(120)).play("x1").count(0, 0);
        script = script("four FOURS").play(FOUR_FOURS).count(6, 40).play("x40").count(6, 0);
        script.count(12, script.house.wall(117)).play("x1").count(0, 0).count(7, 4);
        // The last FOUR takes the last tile away: place 121 is not drawn.
        script("behind the last").play("deal555 x68").count(12, wall("deal555", 120)).play("h30").count(6, 0)
            .count(12, wall("deal555", 122)).play("x1").count(0, 0);
    }

    private static int wall(String deal, int place) {
        return script("wall").play(deal).house.wall(place);
    }

    /** "Behind each FOUR its SEAT draws place 122, 123, .. instead." */
    private static void behindFours() {
        Script script = script("behind FOURS")
            .play("deal1480192573074383775 d12 p d30 p d32 t3 d25 p d3 p d27 p d30 p "
            + "d7 p d16 p d33 p d28 p d13 p d33 p d28 p d30 p a32 p").count(1, 3)
            .count(12, wall("deal1480192573074383775", 122));
        script.play("d0 p d9 p d3 p d4 p d10 p d8 f1").count(1, 1).count(12, script.house.wall(123));
        script.play("d16 p h18").count(1, 2).count(12, script.house.wall(124));
        script.play("d16 p d22 p d9 p d12 p d19 p h29").count(1, 3).count(12, script.house.wall(125));
    }

    /** "one at first, one more with each FOUR made". */
    private static void signs() {
        Script script = script("SIGNS").count(8, 0).play("deal1480192573074383775").count(8, 1)
            .play("d12 p d30 p d32 t3 "
            + "d25 p d3 p d27 p d30 p d7 p d16 p d33 p d28 p d13 p d33 p d28 p d30 p a32").count(8, 1).play("p")
            .count(8, 2);
        script.play("d0 p d9 p d3 p d4 p d10 p d8 f1").count(8, 3).play("d16 p h18").count(8, 4);
        script.play("d16 p d22 p d9 p d12 p d19 p h29").count(8, 5);
    }

    /** "An added FOUR is made as its SEAT draws: not, if it is robbed." */
    private static void robbedIsNotMade() {
        String added = "deal8388691691443010381 d8 p d6 p d3 p d14 t2 d28 p d15 p d9 p d1 p d29 p d25 t0 d29 p d22 p a14 ";
        script("added").play(added).count(7, 0).count(8, 1).count(6, 59).laid(2, 0, 2, 14);
        script("robbed").play(added + "c0 p").count(7, 0).count(8, 1).count(6, 59).laid(2, 0, 2, 14);
        script("not robbed").play(added + "p").count(7, 1).count(8, 2).count(6, 58).laid(2, 0, 2, 14);
    }

    /** "(behind the 9 the 1), of the WINDS (behind 3 0), of the DRAGONS": the last makes the first dear. */
    private static void dearBehindTheLast() {
        // The SIGN is 8, one 0 is dear; the HIDDEN SIGN is 9, one 10 is.
        Script script = script("behind 8")
            .play("deal21284 d10 p d14 p d21 p x1 d22 p d32 p d33 p d30 p d30 p b27 p x1 d11 c1 p");
        script.forms(0, 0, 2).won(0, 1, 3, 2000, 4, 40, 9000, 11);
        CHECK.due("the SIGN", script.house.wall(126), 8);
        script = script("behind 17").play("deal67819 d25 p d0 p b32 p d1 p d8 p d13 c2 p").forms(0, 1, 2);
        script.won(0, 2, 1, 2000, 4, 40, 9000, 13);
        CHECK.due("the SIGN", script.house.wall(126), 17);
        script = script("behind 26").play("deal54755 d28 p d13 p d0 p d2 p d6 p b8 p d29 c1 p").forms(0, 0, 2);
        script.won(0, 1, 2, 1280, 3, 40, 6200, 29);
        CHECK.due("the SIGN", script.house.wall(126), 26);
        // Two 27 are dear; they are not behind 26, nor is 31 behind 30.
        script = script("behind 30").play("deal68058 d25 p d31 p b21 p d13 c2 p").forms(0, 1, 2);
        script.won(0, 2, 3, 2000, 5, 40, 9000, 13);
        CHECK.due("the SIGN", script.house.wall(126), 30);
        script = script("behind 33").play("deal33172 d19 p d30 p d10 p d19 p d11 p d17 c0 p").forms(0, 16);
        script.won(0, 0, 1, 1600, 4, 25, 9600, 17);
        CHECK.due("the SIGN", script.house.wall(126), 33);
    }

    /** "1 more for each tile of the hand that a SIGN makes dear": the ones laid down, too. */
    private static void dearLaidDown() {
        // 23 makes the hidden FOUR of 24 dear: four HAN with one FORM.
        script("a FOUR is dear").play("deal14483 d33 p d28 p d0 p h24 d5 p x1 d23 p d20 p w").forms(0, 3)
            .won(0, 3, -1, 2000, 5, 40, 8000, 21);
    }

    /** "each SIGN counts". */
    private static void eachSignCounts() {
        // SIGNS 20 and 19: a 21 and a 20 are dear.
        script("two SIGNS").play("deal30623 d28 f2 d10 p d22 c2 p").forms(0, 26).won(0, 2, 3, 2000, 4, 40, 8000, 22);
        // Both SIGNS are 24: one 25 counts twice.
        script("two like SIGNS").play("deal60902 d32 p d0 p d8 p d8 p d15 p d20 r2.18 d13 p d33 p d25 p d6 p d25 p d26 p "
            + "x1 d17 p d33 p d29 p h14 d22 p d31 p d23 p x1 d13 p d19 p x2 d33 p w").hand(1, 25, 1).forms(0, 3)
            .won(0, 1, -1, 960, 3, 30, 4000, 25);
        // A SIGN and the HIDDEN SIGN behind it are 19: one 20 counts twice.
        script("like a HIDDEN SIGN").play("deal53926 d7 p d8 p x1 d2 p d26 p d1 p d32 p d18 p d31 p b11 p d30 c1 p")
            .hand(1, 20, 1).forms(0, 0, 2).won(0, 1, 2, 2000, 4, 40, 9000, 30);
    }

    /** "HIDDEN SIGNS the places behind these"; they count "with a BET". */
    private static void hiddenSigns() {
        script("a HIDDEN SIGN, a BET").play("deal41491 d13 p b4 p d2 p d10 c1 p").forms(0, 1, 2)
            .won(0, 1, 3, 2000, 4, 40, 9000, 10);
        // 25 is behind the HIDDEN SIGN 24, and 0 has one, but no BET.
        script("a HIDDEN SIGN, no BET").play("deal88667 d28 p x1 d15 p d22 c0 p").hand(0, 25, 1).forms(0, 9)
            .won(0, 0, 3, 240, 1, 30, 1500, 22);
        // The second HIDDEN SIGN is 11, and 3 has one 12.
        script("the second HIDDEN SIGN").play("deal29065 d28 p h17 d8 p d18 p d21 p d32 p d33 p d27 p b26 p d2 c3 p")
            .hand(3, 12, 1).forms(0, 0, 2).won(0, 3, 0, 1280, 3, 40, 6200, 2);
    }
}
