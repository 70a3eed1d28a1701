import java.util.ArrayList;
import java.util.List;
import java.util.Random;

/** Promises 22 to 28 on many hands that are put together at random, held against WorthModel. */
public final class WorthTest {
    private static final Check CHECK = new Check("WorthTest");
    private static final int HANDS = 60_000;
    private static final int[] GREEN = {19, 20, 21, 23, 25, 32};
    private static long seen;

    public static void main(String[] args) {
        Random random = new Random(20261116);
        for (int i = 0; i < HANDS; i++) {
            tryHand(new TileHouse(), random, i % 12);
        }
        for (int form = 0; form < 44; form++) {
            boolean exists = form != 30 && form != 31;
            CHECK.due("hands with FORM " + form + " were tried", (seen >> form & 1) == 1, exists);
        }
        CHECK.end();
    }

    private static void tryHand(TileHouse house, Random random, int taste) {
        List<Integer> free = new ArrayList<>();
        List<WorthModel.Group> laid = new ArrayList<>();
        if (taste == 1) {
            pairs(free, random);
        } else if (taste == 2) {
            thirteen(free, random);
        } else {
            sets(house, free, laid, random, taste);
        }
        for (int kind : free) {
            house.lay(kind, 1);
        }
        CHECK.due("deskWaits() of a full hand " + free + laid, house.deskWaits(), 0);
        for (int i = 0; i < 3 && !free.isEmpty(); i++) {
            int winner = free.get(random.nextInt(free.size()));
            long told = random.nextInt(3) == 0 ? random.nextLong() : random.nextInt(256);
            told = random.nextInt(12) == 0 ? told : told & 0xFFFFFFFFL;
            told = random.nextInt(2) == 0 ? 0 : told;
            compare(house, free, laid, winner, told, random);
        }
        compareWaits(house, free, laid, random);
    }

    private static void compare(TileHouse house, List<Integer> free, List<WorthModel.Group> laid,
            int winner, long told, Random random) {
        boolean drawn = random.nextBoolean();
        int winds = random.nextInt();
        int dear = random.nextInt(4) == 0 ? random.nextInt() : random.nextInt(4);
        WorthModel model = new WorthModel();
        int want = model.judge(free, laid, winner, drawn, told, winds, dear & 63);
        String what = free + " " + laid + " " + winner + (drawn ? " drawn " : " told ") + told
            + " " + winds + " " + dear + ": ";
        CHECK.due(what + "worth", house.worth(winner, drawn, told, winds, dear), want);
        CHECK.due(what + "desk(0)", house.desk(0), want);
        CHECK.due(what + "desk(1)", house.desk(1), model.han);
        CHECK.due(what + "desk(2)", house.desk(2), model.fu);
        CHECK.due(what + "desk(3)", house.desk(3), model.ways);
        CHECK.due(what + "deskForms()", house.deskForms(), model.forms);
        seen |= house.deskForms();
    }

    private static void compareWaits(TileHouse house, List<Integer> free,
            List<WorthModel.Group> laid, Random random) {
        if (free.isEmpty()) {
            return;
        }
        List<Integer> less = new ArrayList<>(free);
        less.remove(random.nextInt(less.size()));
        house.clear();
        for (WorthModel.Group group : laid) {
            CHECK.yes("set again", house.set(group.sort(), group.low()));
        }
        for (int kind : less) {
            CHECK.yes("lay again", house.lay(kind, 1));
        }
        CHECK.due("deskWaits() of " + less + laid, house.deskWaits(), WorthModel.waits(less, laid));
        CHECK.due("worth of 13 tiles", house.worth(less.isEmpty() ? 0 : less.get(0), true, 0, 0, 0), 0);
        CHECK.due("desk(3) of 13 tiles", house.desk(3), 0);
    }

    private static void pairs(List<Integer> free, Random random) {
        int from = random.nextInt(3) == 0 ? 27 : 0;
        int most = random.nextInt(2) == 0 ? 34 - from : Math.min(34 - from, 9);
        from = from == 0 && most == 9 ? 9 * random.nextInt(3) : from;
        for (int i = 0; i < 200 && free.size() < 14; i++) {
            int kind = from + random.nextInt(most);
            if (!free.contains(kind)) {
                free.add(kind);
                free.add(kind);
            }
        }
    }

    private static void thirteen(List<Integer> free, Random random) {
        for (int kind = 0; kind < 34; kind++) {
            if (WorthModel.end(kind)) {
                free.add(kind);
            }
        }
        free.add(free.get(random.nextInt(13)));
    }

    private static void sets(TileHouse house, List<Integer> free, List<WorthModel.Group> laid,
            Random random, int taste) {
        int[] used = new int[34];
        int want = 4;
        int laying = random.nextInt(5);
        for (int i = 0; i < 400 && want > 0; i++) {
            int sort = taste == 10 && random.nextInt(5) > 0 ? 3 : random.nextInt(taste == 3 ? 1 : 4);
            int kind = pick(random, taste);
            boolean down = laying == 0 ? random.nextBoolean() : laying == 1;
            sort = down ? sort : Math.min(sort, 1);
            if (!fits(used, sort, kind)) {
                continue;
            }
            want--;
            WorthModel.Group group = new WorthModel.Group(sort, kind, false);
            if (down) {
                CHECK.yes("set(" + sort + ", " + kind + ")", house.set(sort, kind));
                laid.add(group);
            } else {
                free.addAll(WorthModel.allTiles(List.of(), List.of(group)));
            }
        }
        for (int i = 0; i < 400; i++) {
            int kind = pick(random, taste);
            if (used[kind] <= 2) {
                free.add(kind);
                free.add(kind);
                return;
            }
        }
        free.add(0);
    }

    /** Each taste likes other KINDS, so that rare FORMS come up too. */
    private static int pick(Random random, int taste) {
        int kind = random.nextInt(34);
        switch (taste) {
            case 4: return random.nextInt(9);
            case 5: return 27 + random.nextInt(7);
            case 6: return random.nextInt(3) * 9 + (random.nextBoolean() ? 0 : 8);
            case 7: return GREEN[random.nextInt(GREEN.length)];
            case 8: return random.nextInt(3) * 9 + (random.nextInt(3) * 3 + random.nextInt(2)) % 9;
            case 9: return random.nextInt(5) == 0 ? 27 + random.nextInt(7)
                : random.nextInt(3) * 9 + (random.nextBoolean() ? 0 : 6);
            case 11: return random.nextInt(3) * 9 + random.nextInt(3);
            default: return kind;
        }
    }

    private static boolean fits(int[] used, int sort, int kind) {
        if (sort == 0 && (kind >= 27 || kind % 9 > 6)) {
            return false;
        }
        int each = sort == 0 ? 1 : sort == 1 ? 3 : 4;
        int last = sort == 0 ? kind + 2 : kind;
        for (int k = kind; k <= last; k++) {
            if (used[k] + each > 4) {
                return false;
            }
        }
        for (int k = kind; k <= last; k++) {
            used[k] += each;
        }
        return true;
    }
}
