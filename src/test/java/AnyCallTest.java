import java.util.Arrays;
import java.util.NoSuchElementException;
import java.util.Random;

/**
 * Any calls with any arguments: nothing is thrown but by river() and wall(), refused calls change
 * nothing, POINTS and BETS are 100,000 together, and no tile is lost.
 */
public final class AnyCallTest {
    private static final Check CHECK = new Check("AnyCallTest");
    private static final int[] EDGES = {Integer.MIN_VALUE, Integer.MIN_VALUE + 1, -35, -2, -1, 34, 35, 64,
        136, Integer.MAX_VALUE - 2, Integer.MAX_VALUE - 1, Integer.MAX_VALUE};

    public static void main(String[] args) {
        Random random = new Random(136);
        for (int i = 0; i < 400; i++) {
            TileHouse house = new TileHouse();
            for (int j = 0; j < 512; j++) {
                call(house, random);
            }
        }
        CHECK.end();
    }

    private static int any(Random random, int most) {
        return random.nextInt(8) == 0 ? EDGES[random.nextInt(EDGES.length)] : random.nextInt(most);
    }

    private static void call(TileHouse house, Random random) {
        int which = random.nextInt(26);
        if (which >= 16) {
            which = random.nextInt(3) == 0 ? 2 : 1;
        }
        long[] before = GameModel.answersOf(house);
        boolean done = change(house, random, which);
        long[] after = GameModel.answersOf(house);
        if (!done) {
            CHECK.yes("call " + which + " was refused and changes nothing", Arrays.equals(before, after));
        }
        CHECK.due("POINTS and BETS", points(house), 100000);
        CHECK.yes("tiles", house.count(8) == 0 || tiles(house) == tilesDue(house));
        ask(house, random);
    }

    private static boolean change(TileHouse house, Random random, int which) {
        switch (which) {
            case 0: return house.deal(random.nextLong());
            case 1: return house.discard(house.count(12) >= 0 && random.nextInt(3) > 0
                ? house.count(12) : any(random, 34), random.nextBoolean());
            case 2: return house.pass();
            case 3: return house.run(any(random, 4), any(random, 34));
            case 4: return house.run(house.count(1) + 1 & 3, house.count(12) - random.nextInt(3));
            case 5: return house.three(any(random, 4));
            case 6: return house.four(any(random, 4));
            case 7: return house.hide(any(random, 34));
            case 8: return house.add(any(random, 34));
            case 9: return house.win();
            case 10: return house.claim(any(random, 4));
            case 11: return house.nine();
            case 12: return house.lay(any(random, 34), any(random, 5)) && false;
            case 13: return house.set(any(random, 4), any(random, 34)) && false;
            case 14: return house.worth(any(random, 34), random.nextBoolean(), random.nextLong(),
                random.nextInt(), random.nextInt()) < 0;
            default:
                if (random.nextInt(9) == 0) {
                    house.clear();
                }
                return house.deskWaits() < 0;
        }
    }

    private static void ask(TileHouse house, Random random) {
        int a = any(random, 5);
        int b = any(random, 40);
        int c = any(random, 4);
        CHECK.yes("hand", house.hand(a, b) >= 0 && house.hand(a, b) <= 4);
        CHECK.yes("laid", house.laid(a, b, c) >= -1);
        CHECK.yes("seat", house.seat(a, b) >= -1 || b == 0);
        CHECK.yes("won", house.won(a, b) >= -1);
        CHECK.yes("forms", house.forms(a) >= 0);
        CHECK.yes("count", house.count(b) >= -1);
        CHECK.yes("waits", house.waits(a) >= 0);
        CHECK.yes("desk", house.desk(b) >= -1);
        CHECK.yes("deskForms", house.deskForms() >= 0);
        boolean there = a >= 0 && a < 4 && b >= 0 && b < house.seat(a, 4);
        try {
            CHECK.yes("river", house.river(a, b) >= 0 && there);
        } catch (NoSuchElementException e) {
            CHECK.no("river(" + a + ", " + b + ") threw", there);
        }
        there = house.count(8) > 0 && b >= 0 && b < 136;
        try {
            CHECK.yes("wall", house.wall(b) >= 0 && there);
        } catch (NoSuchElementException e) {
            CHECK.no("wall(" + b + ") threw", there);
        }
    }

    private static int points(TileHouse house) {
        int sum = 1000 * house.count(5);
        for (int seat = 0; seat < 4; seat++) {
            sum += house.seat(seat, 0);
        }
        return sum;
    }

    /** Tiles in hands and SETS; a claimed tile is in a SET, and in a river too. */
    private static int tiles(TileHouse house) {
        int sum = 0;
        for (int seat = 0; seat < 4; seat++) {
            for (int kind = 0; kind < 34; kind++) {
                sum += house.hand(seat, kind);
            }
            for (int i = 0; i < house.seat(seat, 5); i++) {
                sum += house.laid(seat, i, 0) >= 2 ? 4 : 3;
            }
            sum += house.seat(seat, 4);
        }
        return sum;
    }

    private static int tilesDue(TileHouse house) {
        // Behind each FOUR one tile is drawn, and one fewer is left to be drawn.
        int drawn = 52 + 70 - house.count(6);
        int claimed = 0;
        for (int seat = 0; seat < 4; seat++) {
            for (int i = 0; i < house.seat(seat, 5); i++) {
                claimed += house.laid(seat, i, 0) == 3 ? 0 : 1;
            }
        }
        return drawn + claimed;
    }
}
