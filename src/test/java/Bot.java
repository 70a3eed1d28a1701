import java.util.Random;

/** Plays a TileHouse: mostly with sense, so that hands are won, sometimes without. */
final class Bot {
    /** A call with its arguments, as text for a wrong answer's report and as numbers. */
    record Call(String name, long a, long b) {
        @Override
        public String toString() {
            return name + "(" + a + ", " + b + ")";
        }

        boolean on(TileHouse house) {
            switch (name) {
                case "deal": return house.deal(a);
                case "discard": return house.discard((int) a, b != 0);
                case "pass": return house.pass();
                case "run": return house.run((int) a, (int) b);
                case "three": return house.three((int) a);
                case "four": return house.four((int) a);
                case "hide": return house.hide((int) a);
                case "add": return house.add((int) a);
                case "win": return house.win();
                case "claim": return house.claim((int) a);
                default: return house.nine();
            }
        }

        boolean on(GameModel model) {
            switch (name) {
                case "deal": return model.deal(a);
                case "discard": return model.discard((int) a, b != 0);
                case "pass": return model.pass();
                case "run": return model.run((int) a, (int) b);
                case "three": return model.three((int) a);
                case "four": return model.four((int) a);
                case "hide": return model.hide((int) a);
                case "add": return model.add((int) a);
                case "win": return model.win();
                case "claim": return model.claim((int) a);
                default: return model.nine();
            }
        }
    }

    private static final String[] NAMES = {"deal", "discard", "pass", "run", "three", "four",
        "hide", "add", "win", "claim", "nine"};

    private final Random random;
    /** Out of 100: how often a SEAT claims a SET, bets, wins, makes a FOUR, plays nonsense. */
    private final int claims;
    private final int betting;
    private final int winning;
    private final int fours;
    private final int nonsense;
    private final int feeding;
    /** What was asked of the SEATS since the last tile was drawn or laid. */
    private int asked;
    private String moment = "";

    Bot(Random random) {
        this.random = random;
        int[] some = {0, 10, 40, 90};
        claims = some[random.nextInt(4)];
        betting = some[random.nextInt(4)];
        winning = random.nextInt(3) == 0 ? 30 : 95;
        fours = random.nextInt(2) == 0 ? 20 : 95;
        feeding = some[random.nextInt(3)];
        nonsense = 6;
    }

    private boolean chance(int outOf100) {
        return random.nextInt(100) < outOf100;
    }

    Call next(TileHouse house) {
        if (chance(nonsense)) {
            return new Call(NAMES[random.nextInt(NAMES.length)], random.nextInt(37) - 1,
                random.nextInt(36) - 1);
        }
        String now = house.count(0) + " " + house.count(1) + " " + house.count(6) + " "
            + house.count(7);
        if (!now.equals(moment)) {
            moment = now;
            asked = 0;
        }
        switch (house.count(0)) {
            case 0: return new Call("deal", random.nextLong(), 0);
            case 1: return turn(house);
            default: return others(house);
        }
    }

    private Call turn(TileHouse house) {
        int seat = house.count(1);
        asked++;
        if (asked % 4 == 1 && chance(winning)) {
            return new Call("win", 0, 0);
        }
        if (asked % 4 == 2 && house.seat(seat, 4) == 0 && chance(30)) {
            return new Call("nine", 0, 0);
        }
        if (asked % 4 == 3 && chance(fours)) {
            for (int kind = 0; kind < 34; kind++) {
                if (house.hand(seat, kind) == 4) {
                    return new Call("hide", kind, 0);
                }
                for (int i = 0; i < house.seat(seat, 5); i++) {
                    if (house.hand(seat, kind) == 1 && house.laid(seat, i, 0) == 1
                            && house.laid(seat, i, 1) == kind) {
                        return new Call("add", kind, 0);
                    }
                }
            }
        }
        return asked % 4 == 0 ? bestDiscard(house, seat) : turn(house);
    }

    /** Whether a SET with the discard brings a hand nearer to a FULL one. */
    private boolean nearer(TileHouse house, int seat, int kind, int low, int high) {
        int[] hand = handOf(house, seat);
        int before = Distance.of(hand, house.seat(seat, 5));
        if (low == high) {
            hand[kind] -= 2;
        }
        for (int k = low; k <= high; k++) {
            hand[k] -= k == kind ? 0 : 1;
        }
        return Distance.of(hand, house.seat(seat, 5) + 1) < before || chance(10);
    }

    private static int[] handOf(TileHouse house, int seat) {
        int[] hand = new int[34];
        for (int kind = 0; kind < 34; kind++) {
            hand[kind] = house.hand(seat, kind);
        }
        return hand;
    }

    private Call bestDiscard(TileHouse house, int seat) {
        if (house.seat(seat, 1) > 0 && chance(98)) {
            return new Call("discard", house.count(12), 0);
        }
        int[] hand = handOf(house, seat);
        int best = Integer.MAX_VALUE;
        int chosen = 0;
        for (int kind = 0; kind < 34; kind++) {
            if (hand[kind] > 0) {
                hand[kind]--;
                int far = 100 * Distance.of(hand, house.seat(seat, 5)) + random.nextInt(100);
                hand[kind]++;
                if (far < best) {
                    best = far;
                    chosen = kind;
                }
            }
        }
        if (chance(5)) {
            chosen = random.nextInt(34);
        }
        if (chance(feeding)) {
            chosen = wanted(house, seat, chosen);
        }
        return new Call("discard", chosen, best < 100 && chance(betting) ? 1 : 0);
    }

    /** The tile of the hand for which the most others WAIT. */
    private int wanted(TileHouse house, int seat, int otherwise) {
        int most = 0;
        int chosen = otherwise;
        for (int kind = 0; kind < 34; kind++) {
            int waiting = 0;
            for (int i = 1; i < 4; i++) {
                waiting += house.waits(seat + i & 3) >> kind & 1;
            }
            if (house.hand(seat, kind) > 0 && waiting > most) {
                most = waiting;
                chosen = kind;
            }
        }
        return chosen;
    }

    private Call others(TileHouse house) {
        int from = house.count(1);
        int kind = house.count(12);
        asked++;
        int step = asked % 4;
        if (step == 0) {
            return new Call("pass", 0, 0);
        }
        int seat = from + step & 3;
        if ((house.waits(seat) >> kind & 1) == 1 && house.seat(seat, 7) == 0 && chance(winning)) {
            return new Call("claim", seat, 0);
        }
        if (house.count(0) == 2 && chance(claims) && house.seat(seat, 5) < 4) {
            if (house.hand(seat, kind) == 3 && chance(fours)) {
                return new Call("four", seat, 0);
            }
            if (house.hand(seat, kind) >= 2 && nearer(house, seat, kind, kind, kind)) {
                return new Call("three", seat, 0);
            }
            int low = kind - random.nextInt(3);
            if (step == 1 && kind < 27 && chance(70) && low >= 0) {
                boolean has = true;
                for (int k = low; k <= low + 2; k++) {
                    has = has && (k == kind || house.hand(seat, k) > 0);
                }
                if (has && nearer(house, seat, kind, low, low + 2)) {
                    return new Call("run", seat, low);
                }
            }
        }
        return others(house);
    }
}
