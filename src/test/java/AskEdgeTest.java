import java.util.NoSuchElementException;

/** Promises 13 to 21, a test for each sentence with an edge: what is asked for is not there. */
public final class AskEdgeTest {
    private static final Check CHECK = new Check("AskEdgeTest");
    private static final int[] NO_SEAT = {Integer.MIN_VALUE, -4, -3, -2, -1, 4, 5, 6, 7, Integer.MAX_VALUE};
    private static final int[] NO_KIND = {Integer.MIN_VALUE, -34, -1, 34, 35, 64, Integer.MAX_VALUE};
    private static final String TWO_WIN = "deal8190872610450340177 d26 p d30 p d8 p d8 p d15 p d14 p d33 p d28 p d16 p d12 p "
        + "d16 p d14 p d19 c1 c3 p ";

    public static void main(String[] args) {
        handLaidDownAside();
        handOfOthers();
        laidSorts();
        laidOfOthers();
        riverClaimedToo();
        riverNoneSuch();
        riverInThisHand();
        waitsAsBits();
        waitsOfOthers();
        seatBet();
        seatLetGo();
        seatDiscards();
        seatSetsAndOpen();
        seatSays();
        seatOfOthers();
        wonInTheOrder();
        wonOfItsOwnDraw();
        wonOwnBetNotTakenOff();
        wonOfOthers();
        wonInTheLatestHand();
        formsOfOthers();
        countTurn();
        countTilesLeft();
        countFoursAndSigns();
        countHandsAndWins();
        countTile();
        countOfOthers();
        wallPlaces();
        wallOfTheLatestHand();
        questionsChangeNothing();
        CHECK.end();
    }

    private static Script script(String name) {
        return new Script(CHECK, name);
    }

    private static boolean riverThrows(TileHouse house, int seat, int i) {
        try {
            house.river(seat, i);
            return false;
        } catch (NoSuchElementException e) {
            return true;
        }
    }

    private static boolean wallThrows(TileHouse house, int place) {
        try {
            house.wall(place);
            return false;
        } catch (NoSuchElementException e) {
            return true;
        }
    }

    /** "How many of a KIND a SEAT has in its hand (laid down ones aside)": 0 to 4. */
    private static void handLaidDownAside() {
        script("a hidden FOUR").play("deal-6021044661905231204").hand(0, 21, 4).play("h21").hand(0, 21, 0);
        script("a THREE of three").play("deal27 d30").hand(1, 30, 3).play("t1").hand(1, 30, 1);
        script("a RUN").play("deal59947 x1 d17 p d23 t1 d9").hand(2, 11, 2).play("r2.9").hand(2, 9, 1).hand(2, 11, 1);
        script("an added tile").play("deal14 d33 t1 d29 p d5 p d31 p d30 p").hand(1, 33, 1).play("a33")
            .hand(1, 33, 0);
    }

    /** "0 of others": no such SEAT, no such KIND, no hand yet. */
    private static void handOfOthers() {
        TileHouse house = script("hand").play("deal14").house;
        for (int seat : NO_SEAT) {
            for (int kind = 0; kind < 34; kind++) {
                CHECK.due("hand(" + seat + ", " + kind + ")", house.hand(seat, kind), 0);
            }
        }
        for (int kind : NO_KIND) {
            for (int seat = 0; seat < 4; seat++) {
                CHECK.due("hand(" + seat + ", " + kind + ")", house.hand(seat, kind), 0);
            }
            CHECK.due("hand(-1, " + kind + ")", house.hand(-1, kind), 0);
        }
        CHECK.due("hand(0, 0) before a hand", new TileHouse().hand(0, 0), 0);
    }

    /** "0 RUN, 1 THREE, 2 FOUR (added ones too), 3 hidden FOUR, 1 its (lowest) KIND". */
    private static void laidSorts() {
        script("RUN, the lowest was claimed").play("deal15 d4 r1.4").laid(1, 0, 0, 4);
        script("RUN, the middle was claimed").play("deal16 d3 r1.2").laid(1, 0, 0, 2);
        script("RUN, the highest was claimed").play("deal11 d5 r1.3").laid(1, 0, 0, 3);
        script("THREE, FOUR").play("deal14 d33 t1").laid(1, 0, 1, 33).play("d29 p d5 p d31 p d30 p a33")
            .laid(1, 0, 2, 33)
            .play("p").laid(1, 0, 2, 33);
        script("FOUR").play("deal27 d30 f1").laid(1, 0, 2, 30);
        script("hidden FOUR").play("deal-6021044661905231204 h21").laid(0, 0, 3, 21);
    }

    /** "NONE for others": no such SET, no such SEAT, nothing else is told. */
    private static void laidOfOthers() {
        TileHouse house = script("laid").play("deal15 d4").laid(1, 0, -1, -1).play("r1.4").laid(1, 0, 0, 4).house;
        for (int i : new int[] {Integer.MIN_VALUE, -1, 1, 2, 3, 4, 5, Integer.MAX_VALUE}) {
            CHECK.due("laid(1, " + i + ", 0)", house.laid(1, i, 0), -1);
            CHECK.due("laid(1, " + i + ", 1)", house.laid(1, i, 1), -1);
        }
        for (int what : new int[] {Integer.MIN_VALUE, -1, 2, 3, Integer.MAX_VALUE}) {
            CHECK.due("laid(1, 0, " + what + ")", house.laid(1, 0, what), -1);
        }
        for (int seat : NO_SEAT) {
            CHECK.due("laid(" + seat + ", 0, 0)", house.laid(seat, 0, 0), -1);
        }
        CHECK.due("laid(0, 0, 0)", house.laid(0, 0, 0), -1);
        // Four SETS are all there can be.
        house = script("four SETS").play("deal2268632290617878063 d23 p d27 p d24 p d15 p d29 p d31 p d7 t3 d20 p d15 p d31 "
            + "p d13 p d8 p d32 p d10 p d9 p d26 p d16 p d32 p d1 r3.1 d29 p d27 p d11 p d0 p d11 p d29 p d14 p d5 p d9 p d10 "
            + "p d8 t0 d2 p d3 p d12 p d13 p d26 p d18 t2 d2 p d33 p d30 p d29 p d9 p d25 p d16 p d13 p d19 t3 d20 p d12 p "
            + "d22 p d18 p d32 p d3 p d14 p d21 p d5 p d33 p d10 p d14 p d17 p d24 p d27 p d5 p d0 p d27 p d1 p d17 t3")
            .seat(3, 5, 4).laid(3, 0, 1, 7).laid(3, 1, 0, 1).laid(3, 2, 1, 19).laid(3, 3, 1, 17).laid(3, 4, -1, -1)
            .house;
        CHECK.due("laid(3, 5, 0)", house.laid(3, 5, 0), -1);
    }

    /** "The i-th discard of a SEAT in this hand (claimed ones too)", in PHASE 0 too. */
    private static void riverClaimedToo() {
        TileHouse house = script("river").play("deal14 d33 t1 d29 p d5 p d31 p d30").house;
        int[][] want = {{33, 30}, {29}, {5}, {31}};
        for (int seat = 0; seat < 4; seat++) {
            for (int i = 0; i < want[seat].length; i++) {
                CHECK.due("river(" + seat + ", " + i + ")", house.river(seat, i), want[seat][i]);
            }
        }
        house = script("river of a hand that is over").play("deal427 d1 c2 p").house;
        CHECK.due("the tile that was won by", house.river(0, 0), 1);
    }

    /** "NoSuchElementException: there is none such". */
    private static void riverNoneSuch() {
        for (int seat = 0; seat < 4; seat++) {
            CHECK.yes("river before a hand", riverThrows(new TileHouse(), seat, 0));
        }
        TileHouse house = script("river, none").play("deal14").house;
        CHECK.yes("river(0, 0) before a discard", riverThrows(house, 0, 0));
        house.discard(33, false);
        CHECK.no("river(0, 0)", riverThrows(house, 0, 0));
        for (int i : new int[] {Integer.MIN_VALUE, -1, 1, 2, 85, 86, 87, Integer.MAX_VALUE}) {
            CHECK.yes("river(0, " + i + ")", riverThrows(house, 0, i));
        }
        CHECK.yes("river(1, 0)", riverThrows(house, 1, 0));
        for (int seat : NO_SEAT) {
            CHECK.yes("river(" + seat + ", 0)", riverThrows(house, seat, 0));
        }
        // 0 and 1 make eighteen discards each, 2 and 3 seventeen.
        house = script("river, the longest").play("deal7 x70").seat(0, 4, 18).seat(1, 4, 18).seat(2, 4, 17)
            .seat(3, 4, 17).house;
        for (int place = 52; place <= 121; place++) {
            CHECK.due("place " + place, house.river(place % 4, (place - 52) / 4), house.wall(place));
        }
        CHECK.yes("river(0, 18)", riverThrows(house, 0, 18));
        CHECK.yes("river(3, 17)", riverThrows(house, 3, 17));
    }

    /** "in this hand": none of an earlier one. */
    private static void riverInThisHand() {
        TileHouse house = script("river of an earlier hand").play("deal427 d1 c2 p deal14").house;
        for (int seat = 0; seat < 4; seat++) {
            CHECK.yes("river(" + seat + ", 0)", riverThrows(house, seat, 0));
        }
    }

    /** "KIND k as bit k": the first and the last KIND. */
    private static void waitsAsBits() {
        script("33").play("deal17686 h24 d3 p b19").waits(1, 33);
        CHECK.due("bit 33", script("bit 33").play("deal17686 h24 d3 p b19").house.waits(1), 1L << 33);
        script("0").play("deal91124 d17").waits(0, 0, 3);
        CHECK.due("bit 0", script("bit 0").play("deal91124 d17").house.waits(0), 9);
    }

    /** "0 of others". */
    private static void waitsOfOthers() {
        TileHouse house = script("waits").play("deal427").waits(2, 1).house;
        for (int seat : NO_SEAT) {
            CHECK.due("waits(" + seat + ")", house.waits(seat), 0);
        }
        CHECK.due("waits(2) before a hand", new TileHouse().waits(2), 0);
    }

    /** "1 BET (1; FIRST: 2)". */
    private static void seatBet() {
        script("no BET").play("deal9952 d13").seat(0, 1, 0);
        script("FIRST").play("deal9952 b13").seat(0, 1, 2).seat(1, 1, 0).play("p x3").seat(0, 1, 2);
        Script script = script("later").play("deal9952 d13 p x3");
        script.play("b" + script.house.count(12)).seat(0, 1, 1);
    }

    /** "2 whether it LET GO (1)": not that it discarded what it WAITS for. */
    private static void seatLetGo() {
        script("LET GO").play("deal1980887079960266112 d21 p d8 p d4").seat(0, 2, 0).play("p").seat(0, 2, 1);
        script("its own discard").play("deal96239 d7 p").seat(0, 2, 0);
    }

    /** "4 how many discards": claimed ones too. */
    private static void seatDiscards() {
        script("discards").seat(0, 4, 0).play("deal14").seat(0, 4, 0).play("d33").seat(0, 4, 1).play("t1")
            .seat(0, 4, 1)
            .seat(1, 4, 0).play("d29 p d5 p d31 p d30").seat(0, 4, 2);
        script("all discards").play("deal7 x70").seat(0, 4, 18).play("deal14").seat(0, 4, 0);
    }

    /** "5 SETS laid down, 6 whether it is OPEN": a hidden FOUR is laid down, and not OPEN. */
    private static void seatSetsAndOpen() {
        script("a hidden FOUR").play("deal-6021044661905231204").seat(0, 5, 0).seat(0, 6, 0).play("h21").seat(0, 5, 1)
            .seat(0, 6, 0);
        script("a FOUR").play("deal27 d30 f1").seat(1, 5, 1).seat(1, 6, 1).seat(0, 5, 0).seat(0, 6, 0);
        script("a RUN").play("deal15 d4 r1.4").seat(1, 5, 1).seat(1, 6, 1);
        // 3 has an added FOUR and a hidden one.
        script("both").play("deal1480192573074383775 d12 p d30 p d32 t3 d25 p d3 p d27 p d30 p d7 p d16 p d33 p d28 p d13 p "
            + "d33 p d28 p d30 p a32").seat(3, 5, 1).seat(3, 6, 1)
            .play("p d0 p d9 p d3 p d4 p d10 p d8 f1 d16 p h18 d16 p "
            + "d22 p d9 p d12 p d19 p h29").seat(3, 5, 2).seat(3, 6, 1).seat(2, 5, 1).seat(2, 6, 0);
    }

    /** "7 whether it says that it wins". */
    private static void seatSays() {
        script("says so").play("deal427 d1").seat(2, 7, 0).play("c2").seat(2, 7, 1).seat(1, 7, 0).play("p")
            .seat(2, 7, 1)
            .play("deal14").seat(2, 7, 0);
    }

    /** "NONE for others": no such SEAT, nothing else is told. */
    private static void seatOfOthers() {
        TileHouse house = script("seat").play("deal14").house;
        for (int seat : NO_SEAT) {
            for (int what = -1; what <= 8; what++) {
                CHECK.due("seat(" + seat + ", " + what + ")", house.seat(seat, what), -1);
            }
        }
        for (int what : new int[] {Integer.MIN_VALUE, -1, 8, 9, Integer.MAX_VALUE}) {
            for (int seat = 0; seat < 4; seat++) {
                CHECK.due("seat(" + seat + ", " + what + ")", house.seat(seat, what), -1);
            }
        }
    }

    /** "in the order of SEATS behind who pays": 3 before 0 and 1, when 2 pays. */
    private static void wonInTheOrder() {
        Script script = script("order").play("deal325179 d5 c1 p deal325179 d5 c2 p").count(2, 2);
        script.play(TWO_WIN).count(11, 2).won(0, 3, 2).won(1, 1, 2);
    }

    /** "1 who paid (its own draw: NONE)". */
    private static void wonOfItsOwnDraw() {
        script("its own draw").play("deal136776 x68 w").won(0, 0, -1, 240, 1, 30, 1500, 4);
    }

    /** "(BETS on the table, STAYS too; its own bet is not taken off)". */
    private static void wonOwnBetNotTakenOff() {
        // 18,000 and its own 1,000; it has 18,000 more than at first.
        script("its own bet").play("deal9952 b13 p x2 d1 c0 p").won(0, 0, 3, 3000, 6, 30, 19000, 1).seat(0, 0, 43000);
        script("STAYS too").play("deal63 n deal9952 b13 p x2 d1 c0 p").won(0, 0, 3, 3000, 6, 30, 19300, 1)
            .seat(0, 0, 43300);
    }

    /** "NONE for others": no such win, nothing else is told. */
    private static void wonOfOthers() {
        TileHouse house = script("won").play(TWO_WIN).count(11, 2).house;
        for (int i : new int[] {Integer.MIN_VALUE, -1, 2, 3, 4, Integer.MAX_VALUE}) {
            for (int what = -1; what <= 7; what++) {
                CHECK.due("won(" + i + ", " + what + ")", house.won(i, what), -1);
            }
        }
        for (int what : new int[] {Integer.MIN_VALUE, -1, 7, 8, Integer.MAX_VALUE}) {
            CHECK.due("won(0, " + what + ")", house.won(0, what), -1);
            CHECK.due("won(1, " + what + ")", house.won(1, what), -1);
        }
        CHECK.due("won(0, 0) before a hand", new TileHouse().won(0, 0), -1);
    }

    /** "win i of the latest hand": none while one goes on, none of a hand before that. */
    private static void wonInTheLatestHand() {
        script("a new hand").play(TWO_WIN).count(11, 2).play("deal14").count(11, 0).won(0, -1, -1, -1).forms(0)
            .won(1, -1);
        script("without a winner").play(TWO_WIN + "deal63 n").count(11, 0).won(0, -1, -1).forms(0);
        script("a refused deal").play("deal78981 w deal78981 w !deal14").count(11, 1).won(0, 0, -1).forms(0, 42);
    }

    /** "0 of others". */
    private static void formsOfOthers() {
        TileHouse house = script("forms").play(TWO_WIN).forms(0, 9).forms(1, 9).house;
        for (int i : new int[] {Integer.MIN_VALUE, -1, 2, 3, 4, Integer.MAX_VALUE}) {
            CHECK.due("forms(" + i + ")", house.forms(i), 0);
        }
        CHECK.due("forms(0) before a hand", new TileHouse().forms(0), 0);
    }

    /** "whose turn in PHASE 0: NONE". */
    private static void countTurn() {
        script("turn").count(1, -1).play("deal14").count(1, 0).play("d33").count(1, 0).play("t1").count(1, 1)
            .play("d29 p d5 p d31 p d30 p a33").count(1, 1).play("p").count(1, 1);
        script("turn behind a hand").play("deal63 n").count(1, -1);
    }

    /** "6 tiles left to be drawn": 69 behind the DEALER's draw, 0 at the end. */
    private static void countTilesLeft() {
        script("tiles left").count(6, 0).play("deal7").count(6, 69).play("d5").count(6, 69).play("p").count(6, 68);
        script("none left").play("deal7 x68").count(6, 1).play("x1").count(6, 0).play("x1").count(6, 0);
        script("claims").play("deal14 d33 t1").count(6, 69);
        script("a FOUR").play("deal27 d30 f1").count(6, 68);
    }

    /** "7 FOURS made in the hand, 8 the SIGNS that are open": 0 to 4, 1 to 5. */
    private static void countFoursAndSigns() {
        script("FOURS").count(7, 0).play("deal27").count(7, 0).count(8, 1).play("d30 f1").count(7, 1).count(8, 2);
        script("FOURS of an earlier hand").play("deal30623 d28 f2 d10 p d22 c2 p").count(7, 1).count(8, 2)
            .play("deal14")
            .count(7, 0).count(8, 1);
    }

    /** "10 hands that ended, 11 wins in the latest hand". */
    private static void countHandsAndWins() {
        script("hands").count(10, 0).play("deal63").count(10, 0).play("n").count(10, 1).count(11, 0)
            .play("deal427 d1 c2")
            .count(10, 1).count(11, 0).play("p").count(10, 2).count(11, 1).play("deal7 x70").count(10, 3)
            .count(11, 0);
    }

    /** "12 the tile that may be claimed, robbed, or that was drawn (NONE)". */
    private static void countTile() {
        Script script = script("tile").count(12, -1).play("deal14");
        script.count(12, script.house.wall(52)).play("d33").count(12, 33);
        // Behind a claim nothing was drawn.
        script.play("t1").count(12, -1).play("d29").count(12, 29).play("p").count(12, script.house.wall(53));
        script.play("d5 p d31 p d30 p a33").count(12, 33).play("p").count(12, script.house.wall(122));
        script("behind a hand").play("deal427 d1 c2").count(12, 1).play("p").count(12, -1);
    }

    /** "NONE for others". */
    private static void countOfOthers() {
        for (TileHouse house : new TileHouse[] {new TileHouse(), script("count").play("deal14").house}) {
            for (int what : new int[] {Integer.MIN_VALUE, -2, -1, 13, 14, 100, Integer.MAX_VALUE}) {
                CHECK.due("count(" + what + ")", house.count(what), -1);
            }
        }
    }

    /** "NoSuchElementException: no hand yet, no such place". */
    private static void wallPlaces() {
        TileHouse house = new TileHouse();
        for (int place : new int[] {Integer.MIN_VALUE, -1, 0, 52, 135, 136, Integer.MAX_VALUE}) {
            CHECK.yes("wall(" + place + ") of no hand", wallThrows(house, place));
        }
        house.deal(14);
        for (int place = 0; place < 136; place++) {
            CHECK.no("wall(" + place + ")", wallThrows(house, place));
        }
        for (int place : new int[] {Integer.MIN_VALUE, -136, -1, 136, 137, Integer.MAX_VALUE}) {
            CHECK.yes("wall(" + place + ")", wallThrows(house, place));
        }
    }

    /** "the WALL of the latest hand": in PHASE 0, too, until the next one begins. */
    private static void wallOfTheLatestHand() {
        Script script = script("the latest").play("deal63 n");
        TileHouse first = script("first").play("deal63").house;
        TileHouse second = script("second").play("deal14").house;
        for (int place = 0; place < 136; place++) {
            CHECK.due("wall(" + place + ") behind the hand", script.house.wall(place), first.wall(place));
        }
        script.play("deal14 !deal63");
        for (int place = 0; place < 136; place++) {
            CHECK.due("wall(" + place + ") of the next", script.house.wall(place), second.wall(place));
        }
    }

    /** Two askings have one answer, and what was asked does not matter to the GAME. */
    private static void questionsChangeNothing() {
        Script script = script("asked").play("deal14 d33 t1 d29 p");
        for (int a = -1; a <= 5; a++) {
            for (int b = -1; b <= 34; b++) {
                script.house.hand(a, b);
                script.house.laid(a, b, b & 1);
                script.house.seat(a, b);
                script.house.won(a, b);
                riverThrows(script.house, a, b);
            }
            script.house.waits(a);
            script.house.forms(a);
        }
        script.play("d5 p d31 p d30 p a33 p");
    }
}
