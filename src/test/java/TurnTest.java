import java.util.NoSuchElementException;

/** Promises 3, 4, 14 and 15: discards, what must not be discarded, passing, rivers. */
public final class TurnTest {
    private static final Check CHECK = new Check("TurnTest");

    public static void main(String[] args) {
        discards();
        rivers();
        barredBehindRuns();
        barredBehindThree();
        barredIsOverWithTheDiscard();
        CHECK.end();
    }

    /** Seed 15: the DEALER has 1 4 11 13 15 15 19 19 20 22 24 26 31 32, 4 to be thrown. */
    private static void discards() {
        Script script = new Script(CHECK, "discard").play("deal15 !p !c1 !t1 !r1.4 !f1");
        script.play("!d0 !d2 !d33 !d34 !d-1 !d2147483647 !d-2147483648 !b4 !b15");
        int drawn = script.house.count(12);
        script.play("d4").count(0, 2).count(1, 0).count(12, 4).count(6, 69).hand(0, 4, 0);
        script.seat(0, 4, 1).seat(0, 1, 0).play("!d1 !d11 !w !n !h4 !a4").play("p");
        script.count(0, 1).count(1, 1).count(6, 68).count(12, script.house.wall(53));
        CHECK.due("the first draw", drawn, script.house.wall(52));
        script.play("d" + script.house.count(12) + " p").count(1, 2);
        script.play("d" + script.house.count(12) + " p").count(1, 3);
        script.play("d" + script.house.count(12) + " p").count(1, 0).count(6, 65);
        script.count(12, script.house.wall(56));
    }

    private static void rivers() {
        Script script = new Script(CHECK, "river").play("deal14 d33 t1 d29 p d5 p d31 p");
        TileHouse house = script.house;
        CHECK.due("river(0, 0), which was claimed", house.river(0, 0), 33);
        CHECK.due("river(1, 0)", house.river(1, 0), 29);
        CHECK.due("river(2, 0)", house.river(2, 0), 5);
        CHECK.due("river(3, 0)", house.river(3, 0), 31);
        script.play("d30");
        CHECK.due("river(0, 1)", house.river(0, 1), 30);
        int[][] none = {{0, 2}, {0, -1}, {1, 1}, {4, 0}, {-1, 0}, {0, Integer.MAX_VALUE},
            {0, Integer.MIN_VALUE}, {Integer.MAX_VALUE, 0}, {Integer.MIN_VALUE, 0}};
        for (int[] pair : none) {
            CHECK.yes("river(" + pair[0] + ", " + pair[1] + ")", throwsAt(house, pair[0], pair[1]));
        }
        CHECK.yes("river(0, 0) before a hand", throwsAt(new TileHouse(), 0, 0));
    }

    private static boolean throwsAt(TileHouse house, int seat, int i) {
        try {
            house.river(seat, i);
            return false;
        } catch (NoSuchElementException e) {
            return true;
        }
    }

    private static void barredBehindRuns() {
        // 4 5 6, the lowest claimed: neither 4 nor 7 (which 1 has); others go.
        new Script(CHECK, "lowest").play("deal15 d4 r1.4 !d4 !d7 !b7 d0").laid(1, 0, 0, 4);
        new Script(CHECK, "lowest, then another").play("deal15 d4 r1.4 !d7 !w !h12 !a12 !n d12");
        // 3 4 5, the highest claimed (5): neither 5 nor 2, which 1 has.
        new Script(CHECK, "highest").play("deal11 d5 r1.3").hand(1, 2, 1).play("!d5 !d2 !b2");
        // 7 8 9, the highest claimed: neither that nor the 6, which 1 has.
        new Script(CHECK, "9 of 7 8 9").play("deal7 d8 r1.6").hand(1, 5, 1).play("!d8 !d5 d9");
        // 3 4 5, the middle claimed: what stands beside the RUN goes, on both sides.
        new Script(CHECK, "middle").play("deal16 d3 r1.2").hand(1, 1, 1).hand(1, 5, 1).play("!d3 d1");
        new Script(CHECK, "middle, above").play("deal16 d3 r1.2 !d3 d5");
        // 7 8 9, the lowest claimed: the KIND behind the 9 is of another suit, and goes.
        new Script(CHECK, "7 of 7 8 9").play("deal10 d6 r1.6").hand(1, 9, 1).play("!d6 d9");
        new Script(CHECK, "a WIND behind the 9").play("deal2 d24 r1.24").hand(1, 27, 2).play("!d24 d27");
        // 1 2 3, the highest claimed: the KIND before the 1 is of another suit, and goes.
        new Script(CHECK, "3 of 1 2 3").play("deal62 d11 r1.9").hand(1, 8, 2).play("!d11 d8");
        new Script(CHECK, "3 of 1 2 3 again").play("deal93 d20 r1.18").hand(1, 17, 1).play("!d20 d17");
    }

    private static void barredBehindThree() {
        new Script(CHECK, "three").play("deal14 d33 t1 !d33 !w !n !h25 !a33 d29")
            .laid(1, 0, 1, 33).laid(1, 1, -1, -1).laid(1, -1, -1, -1).laid(0, 0, -1, -1);
        Script script = new Script(CHECK, "laid").play("deal14 d33 t1");
        int[][] none = {{1, 0, 2}, {1, 0, -1}, {4, 0, 0}, {-1, 0, 0}, {1, Integer.MAX_VALUE, 0},
            {1, Integer.MIN_VALUE, 1}, {1, 4, 0}};
        for (int[] ask : none) {
            CHECK.due("laid(" + ask[0] + ", " + ask[1] + ", " + ask[2] + ")",
                script.house.laid(ask[0], ask[1], ask[2]), -1);
        }
    }

    private static void barredIsOverWithTheDiscard() {
        // 1 claims 4 4 5 6 and may throw 7 when it has drawn again.
        Script script = new Script(CHECK, "later").play("deal15 d4 r1.4 !d7 d0 p");
        for (int i = 0; i < 3; i++) {
            script.play("d" + script.house.count(12) + " p");
        }
        script.count(1, 1).hand(1, 7, 1).play("d7");
    }
}
