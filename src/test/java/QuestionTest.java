/** Promises 13, 14 and 16 to 20: what is asked of SEATS, KINDS, wins and numbers that are none. */
public final class QuestionTest {
    private static final Check CHECK = new Check("QuestionTest");
    private static final int[] FAR = {Integer.MIN_VALUE, -7, -1, 4, 5, 100, Integer.MAX_VALUE};

    public static void main(String[] args) {
        // Two have won by one tile.
        Script script = new Script(CHECK, "questions").play("deal8190872610450340177 d26 p d30 p d8 p d8 p "
            + "d15 p d14 p d33 p d28 p d16 p d12 p d16 p d14 p d19 c1 c3 p");
        ask(script.house);
        script.play("deal14 d33 t2 d29 p d5 p d31 p d30 p a33");
        ask(script.house);
        whatIsKnown(script);
        CHECK.end();
    }

    private static void ask(TileHouse house) {
        for (int seat : FAR) {
            CHECK.due("waits(" + seat + ")", house.waits(seat), 0);
            for (int what = -1; what <= 8; what++) {
                CHECK.due("seat(" + seat + ", " + what + ")", house.seat(seat, what), -1);
            }
            CHECK.due("hand(" + seat + ", 0)", house.hand(seat, 0), 0);
            CHECK.due("laid(" + seat + ", 0, 0)", house.laid(seat, 0, 0), -1);
        }
        for (int seat = 0; seat < 4; seat++) {
            CHECK.due("seat(" + seat + ", -1)", house.seat(seat, -1), -1);
            CHECK.due("seat(" + seat + ", 8)", house.seat(seat, 8), -1);
            CHECK.due("seat(" + seat + ", MAX)", house.seat(seat, Integer.MAX_VALUE), -1);
        }
        for (int what : new int[] {-1, 13, Integer.MIN_VALUE, Integer.MAX_VALUE}) {
            CHECK.due("count(" + what + ")", house.count(what), -1);
        }
        for (int i : new int[] {Integer.MIN_VALUE, -1, house.count(11), 3, 4, Integer.MAX_VALUE}) {
            CHECK.due("forms(" + i + ")", house.forms(i), 0);
            for (int what = -1; what <= 7; what++) {
                CHECK.due("won(" + i + ", " + what + ")", house.won(i, what), -1);
            }
        }
        for (int i = 0; i < house.count(11); i++) {
            CHECK.yes("forms(" + i + ")", house.forms(i) != 0);
            CHECK.due("won(" + i + ", -1)", house.won(i, -1), -1);
            CHECK.due("won(" + i + ", 7)", house.won(i, 7), -1);
        }
    }

    /** The second hand, 1 being the DEALER: it threw 33, 2 claimed it and adds the fourth. */
    private static void whatIsKnown(Script script) {
        script.count(0, 3).count(1, 2).count(2, 1).count(3, 0).count(4, 0).count(5, 0).count(6, 65);
        script.count(7, 0).count(8, 1).count(9, 0).count(10, 1).count(11, 0).count(12, 33);
        script.points(22000, 27000, 25000, 26000).laid(2, 0, 2, 33).hand(2, 33, 0).hand(2, 25, 2);
        int[] winds = {3, 0, 1, 2};
        int[] discards = {1, 2, 1, 1};
        for (int seat = 0; seat < 4; seat++) {
            script.seat(seat, 1, 0).seat(seat, 2, 0).seat(seat, 3, winds[seat]).seat(seat, 4, discards[seat]);
            script.seat(seat, 5, seat == 2 ? 1 : 0).seat(seat, 6, seat == 2 ? 1 : 0).seat(seat, 7, 0);
            script.waits(seat);
        }
    }
}
