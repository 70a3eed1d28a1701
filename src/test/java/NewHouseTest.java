import java.util.NoSuchElementException;

/** Promise 1: a GAME, no hand yet, an empty DESK; and what promises 13 to 28 answer then. */
public final class NewHouseTest {
    private static final Check CHECK = new Check("NewHouseTest");

    public static void main(String[] args) {
        TileHouse house = new TileHouse();
        counts(house);
        seats(house);
        nothingIsPossible(house);
        counts(house);
        seats(house);
        emptyDesk(house);
        CHECK.due("NONE", TileHouse.NONE, -1);
        CHECK.end();
    }

    private static void counts(TileHouse house) {
        long[] want = {0, -1, 0, 0, 0, 0, 0, 0, 0, 0, 0, 0, -1};
        for (int what = 0; what < want.length; what++) {
            CHECK.due("count(" + what + ")", house.count(what), want[what]);
        }
        for (int what : new int[] {-1, 13, Integer.MAX_VALUE, Integer.MIN_VALUE}) {
            CHECK.due("count(" + what + ")", house.count(what), -1);
        }
        CHECK.due("won(0, 0)", house.won(0, 0), -1);
        CHECK.due("forms(0)", house.forms(0), 0);
        CHECK.yes("wall(0) throws", throwsAtWall(house, 0));
        CHECK.yes("wall(-1) throws", throwsAtWall(house, -1));
    }

    private static boolean throwsAtWall(TileHouse house, int place) {
        try {
            house.wall(place);
            return false;
        } catch (NoSuchElementException e) {
            return true;
        }
    }

    private static void seats(TileHouse house) {
        for (int seat = 0; seat < 4; seat++) {
            long[] want = {25000, 0, 0, seat, 0, 0, 0, 0};
            for (int what = 0; what < want.length; what++) {
                CHECK.due("seat(" + seat + ", " + what + ")", house.seat(seat, what), want[what]);
            }
            for (int kind = -1; kind <= 34; kind++) {
                CHECK.due("hand(" + seat + ", " + kind + ")", house.hand(seat, kind), 0);
            }
            CHECK.due("waits(" + seat + ")", house.waits(seat), 0);
            CHECK.due("laid(" + seat + ", 0, 0)", house.laid(seat, 0, 0), -1);
        }
    }

    private static void nothingIsPossible(TileHouse house) {
        CHECK.no("discard", house.discard(0, false));
        CHECK.no("discard", house.discard(-1, true));
        CHECK.no("pass", house.pass());
        CHECK.no("run", house.run(1, 0));
        CHECK.no("three", house.three(1));
        CHECK.no("four", house.four(1));
        CHECK.no("hide", house.hide(0));
        CHECK.no("add", house.add(0));
        CHECK.no("win", house.win());
        CHECK.no("claim", house.claim(1));
        CHECK.no("nine", house.nine());
    }

    private static void emptyDesk(TileHouse house) {
        for (int what = 0; what < 4; what++) {
            CHECK.due("desk(" + what + ")", house.desk(what), 0);
        }
        CHECK.due("desk(4)", house.desk(4), -1);
        CHECK.due("desk(-1)", house.desk(-1), -1);
        CHECK.due("deskForms()", house.deskForms(), 0);
        CHECK.due("deskWaits()", house.deskWaits(), 0);
        CHECK.due("worth of nothing", house.worth(0, true, -1L, 0, 0), 0);
    }
}
