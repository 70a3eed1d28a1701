/** The calls that README.md tells, with the answers that it tells. */
public final class ReadmeTest {
    private static final Check CHECK = new Check("ReadmeTest");

    public static void main(String[] args) {
        TileHouse house = new TileHouse();
        hand(house);
        desk(house);
        CHECK.end();
    }

    private static void hand(TileHouse house) {
        CHECK.yes("deal", house.deal(42L));
        CHECK.due("whose turn", house.count(1), 0);
        CHECK.due("tiles left", house.count(6), 69);
        CHECK.due("drawn", house.count(12), 13);
        CHECK.yes("discard", house.discard(13, false));
        CHECK.due("PHASE", house.count(0), 2);
        CHECK.no("claim", house.claim(2));
        CHECK.due("PHASE behind it", house.count(0), 2);
        CHECK.yes("pass", house.pass());
        CHECK.due("whose turn behind it", house.count(1), 1);
        CHECK.due("river", house.river(0, 0), 13);
    }

    private static void desk(TileHouse house) {
        house.clear();
        CHECK.yes("set", house.set(1, 31));
        for (int low : new int[] {0, 9, 21}) {
            house.lay(low, 1);
            house.lay(low + 1, 1);
            house.lay(low + 2, 1);
        }
        CHECK.yes("lay", house.lay(4, 1));
        CHECK.due("deskWaits", house.deskWaits(), 16);
        CHECK.yes("lay", house.lay(4, 1));
        CHECK.due("worth", house.worth(4, true, 0L, 0, 1), 480);
        CHECK.due("HAN", house.desk(1), 2);
        CHECK.due("FU", house.desk(2), 30);
        CHECK.due("FORMS", house.deskForms(), 2048);
    }
}
