import java.util.NoSuchElementException;

/** Promises 2, 13 and 21: the WALL by its number, what is dealt, and when dealing is refused. */
public final class DealTest {
    private static final Check CHECK = new Check("DealTest");

    public static void main(String[] args) {
        long[] seeds = {0, 1, -1, 42, Long.MAX_VALUE, Long.MIN_VALUE, 6364136223846793005L};
        for (long seed : seeds) {
            wallAndHands(seed);
        }
        knownPlaces();
        places();
        whoseHands();
        refused();
        CHECK.end();
    }

    private static void wallAndHands(long seed) {
        TileHouse house = new TileHouse();
        CHECK.yes("deal", house.deal(seed));
        int[] wall = wallOf(seed);
        int[] ofKind = new int[34];
        for (int place = 0; place < 136; place++) {
            CHECK.due("wall(" + place + ") of " + seed, house.wall(place), wall[place]);
            ofKind[house.wall(place)]++;
        }
        for (int kind = 0; kind < 34; kind++) {
            CHECK.due("tiles of KIND " + kind, ofKind[kind], 4);
        }
        for (int seat = 0; seat < 4; seat++) {
            int[] want = new int[34];
            for (int place = 13 * seat; place < 13 * seat + 13; place++) {
                want[wall[place]]++;
            }
            want[wall[52]] += seat == 0 ? 1 : 0;
            for (int kind = 0; kind < 34; kind++) {
                CHECK.due("hand(" + seat + ", " + kind + ")", house.hand(seat, kind), want[kind]);
            }
        }
        CHECK.due("the drawn tile", house.count(12), wall[52]);
        CHECK.due("tiles left", house.count(6), 69);
        CHECK.due("SIGNS", house.count(8), 1);
        CHECK.due("PHASE", house.count(0), 1);
        CHECK.due("turn", house.count(1), 0);
    }

    private static int[] wallOf(long seed) {
        int[] tiles = new int[136];
        for (int i = 0; i < 136; i++) {
            tiles[i] = i;
        }
        long x = seed;
        for (int i = 135; i >= 1; i--) {
            x = x * 6364136223846793005L + 1442695040888963407L;
            int j = (int) ((x >>> 33) % (i + 1));
            int tile = tiles[i];
            tiles[i] = tiles[j];
            tiles[j] = tile;
        }
        for (int i = 0; i < 136; i++) {
            tiles[i] /= 4;
        }
        return tiles;
    }

    /** By seed 0, x is 1442695040888963407 first: 167953149 behind the shift, modulo 136 it is 53. */
    private static void knownPlaces() {
        TileHouse house = new TileHouse();
        house.deal(0);
        CHECK.due("wall(135) of seed 0", house.wall(135), 1442695040888963407L / (1L << 33) % 136 / 4);
    }

    private static void places() {
        TileHouse house = new TileHouse();
        for (int place : new int[] {0, 135}) {
            CHECK.yes("wall(" + place + ") of no hand", throwsAt(house, place));
        }
        house.deal(5);
        for (int place : new int[] {-1, 136, Integer.MAX_VALUE, Integer.MIN_VALUE}) {
            CHECK.yes("wall(" + place + ")", throwsAt(house, place));
        }
        CHECK.no("wall(0)", throwsAt(house, 0));
        CHECK.no("wall(135)", throwsAt(house, 135));
        for (int seat : new int[] {-1, 4, Integer.MAX_VALUE, Integer.MIN_VALUE}) {
            for (int kind = 0; kind < 34; kind++) {
                CHECK.due("hand(" + seat + ", " + kind + ")", house.hand(seat, kind), 0);
            }
        }
        for (int kind : new int[] {-1, 34, Integer.MAX_VALUE, Integer.MIN_VALUE}) {
            CHECK.due("hand(0, " + kind + ")", house.hand(0, kind), 0);
        }
    }

    private static boolean throwsAt(TileHouse house, int place) {
        try {
            house.wall(place);
            return false;
        } catch (NoSuchElementException e) {
            return true;
        }
    }

    /** The DEALER is SEAT 1 in the second hand: SEATS 1, 2, 3, 0 get the places in this order. */
    private static void whoseHands() {
        Script script = new Script(CHECK, "second hand")
            .play("deal-953511006751253465 d22 c1 p").count(2, 1).count(0, 0).count(1, -1);
        script.play("deal77").count(1, 1).count(11, 0).count(7, 0).count(8, 1).count(6, 69);
        int[] wall = wallOf(77);
        for (int i = 0; i < 4; i++) {
            int seat = (1 + i) % 4;
            for (int kind = 0; kind < 34; kind++) {
                int want = i == 0 && wall[52] == kind ? 1 : 0;
                for (int place = 13 * i; place < 13 * i + 13; place++) {
                    want += wall[place] == kind ? 1 : 0;
                }
                script.hand(seat, kind, want);
            }
            script.seat(seat, 3, i).seat(seat, 7, 0).seat(seat, 4, 0);
        }
    }

    private static void refused() {
        new Script(CHECK, "a hand goes on").play("deal8 !deal8 !deal9 d" + wallOf(8)[52] + " !deal8 p !deal8");
        // HEAVEN twice takes more than 25,000 POINTS from each other SEAT.
        new Script(CHECK, "the GAME has ended").play("deal78981 w deal78981 w").count(9, 1)
            .play("!deal1 !deal78981 !p !w !n !d0 !c1");
    }
}
