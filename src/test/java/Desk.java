/** Puts a hand that is told by a text onto the DESK of a house. */
final class Desk {
    private Desk() { }

    /** 4 is a tile of KIND 4; r4, t4, f4, h4 a RUN, THREE, FOUR, hidden FOUR that is laid down. */
    static TileHouse of(Check check, String tiles) {
        return add(check, new TileHouse(), tiles);
    }

    static TileHouse add(Check check, TileHouse house, String tiles) {
        for (String word : tiles.trim().split("\\s+")) {
            int sort = "rtfh".indexOf(word.charAt(0));
            boolean done = sort < 0 ? house.lay(Integer.parseInt(word), 1)
                : house.set(sort, Integer.parseInt(word.substring(1)));
            check.yes(tiles + ": " + word, done);
        }
        return house;
    }
}
