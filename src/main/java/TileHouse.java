import java.util.NoSuchElementException;

/** A house for the game of four winds; ../shared/DOC.md says what each call promises. */
public final class TileHouse {
    public static final int NONE = -1;

    private static final int KINDS = 34;
    private static final int FIRST_WIND = 27;
    private static final int FIRST_DRAGON = 31;
    private static final int SEATS = 4;
    private static final int MOST_SETS = 4;
    private static final int MOST_FOURS = 4;
    private static final int FULL_SIZE = 14;
    private static final int LAST_ROUND = 1;
    private static final int BET_POINTS = 1000;
    private static final int BET_TILES = 4;
    private static final int UNWON_POINTS = 3000;
    private static final int GIVE_UP_ENDS = 9;

    private static final int RUN = 0;
    private static final int THREE = 1;
    private static final int FOUR = 2;
    private static final int HIDDEN_FOUR = 3;

    private static final int IDLE = 0;
    private static final int TO_DISCARD = 1;
    private static final int DISCARDED = 2;
    private static final int ADDED = 3;

    private static final int BET = 1;
    private static final int FIRST_BET = 2;

    // Many questions about a hand are questions about a set of KINDS: KIND k is bit k.
    private static final long SUIT = 0x1FFL;
    private static final long TERMINALS = 0x101L | 0x101L << 9 | 0x101L << 18;
    private static final long WINDS = 0xFL << 27;
    private static final long DRAGONS = 7L << 31;
    private static final long HONOURS = WINDS | DRAGONS;
    private static final long ENDS = TERMINALS | HONOURS;
    private static final long GREENS =
        1L << 19 | 1L << 20 | 1L << 21 | 1L << 23 | 1L << 25 | 1L << 32;

    private final Seat[] players = new Seat[SEATS];
    private final Wall bricks = new Wall();
    private final Judge judge = new Judge();
    private final Win[] wins = new Win[SEATS];
    private final Tiles deskTiles = new Tiles();
    private final Judge deskJudge = new Judge();
    private int winCount;
    private int phase = IDLE;
    private int turn;
    private int dealer;
    private int round;
    private int stays;
    private int bets;
    private boolean ended;
    private int handsEnded;
    /** The drawn, discarded or added tile; NONE in PHASE 1 tells that the SEAT claimed just now. */
    private int tile = NONE;
    private boolean behindFour;
    /** Whether a SET was claimed or a FOUR made in this hand. */
    private boolean broken;
    /** The KINDS that may not be discarded with the claim made just now. */
    private long barred;

    public TileHouse() {
        for (int i = 0; i < SEATS; i++) {
            players[i] = new Seat();
            wins[i] = new Win();
        }
    }

    public boolean deal(long seed) {
        if (phase != IDLE || ended) {
            return false;
        }
        bricks.build(seed);
        for (int i = 0; i < SEATS; i++) {
            Seat player = at(dealer + i);
            player.startHand();
            for (int j = 0; j < 13; j++) {
                player.tiles.put(bricks.kindAt(13 * i + j), 1);
            }
        }
        winCount = 0;
        broken = false;
        drawTile(dealer, false);
        return true;
    }

    public boolean discard(int kind, boolean bet) {
        if (phase != TO_DISCARD || !mayThrow(kind)) {
            return false;
        }
        Seat player = at(turn);
        player.tiles.take(kind, 1);
        if (bet && !mayBet(player)) {
            player.tiles.put(kind, 1);
            return false;
        }
        if (bet) {
            player.bet = player.discards == 0 && !broken ? FIRST_BET : BET;
        }
        player.owes = bet;
        player.atOnce = bet;
        player.throwTile(kind);
        tile = kind;
        barred = 0;
        phase = DISCARDED;
        return true;
    }

    public boolean pass() {
        if (phase != DISCARDED && phase != ADDED) {
            return false;
        }
        if (someoneSays()) {
            winByTile();
        } else if (phase == ADDED) {
            letTileGo();
            makeFour(turn);
        } else {
            letTileGo();
            if (bricks.left() > 0) {
                drawTile(turn + 1, false);
            } else {
                endUnwon();
            }
        }
        return true;
    }

    public boolean run(int seat, int low) {
        if (!mayClaimSet(seat) || seat != (turn + 1 & 3) || !startsRun(low)) {
            return false;
        }
        if (tile < low || tile > low + 2) {
            return false;
        }
        int[] free = at(seat).tiles.free;
        for (int k = low; k <= low + 2; k++) {
            if (k != tile && free[k] == 0) {
                return false;
            }
        }
        long bars = 1L << tile | otherEnd(low);
        if (!keepsOther(at(seat).tiles, 7L << low & ~(1L << tile), bars)) {
            return false;
        }
        takeSet(seat, RUN, low);
        barred = bars;
        return true;
    }

    public boolean three(int seat) {
        if (!mayClaimSet(seat) || at(seat).tiles.free(tile) < 2) {
            return false;
        }
        long bars = 1L << tile;
        if (!keepsOther(at(seat).tiles, 0, bars)) {
            return false;
        }
        takeSet(seat, THREE, tile);
        barred = bars;
        return true;
    }

    public boolean four(int seat) {
        if (!mayClaimSet(seat) || at(seat).tiles.free(tile) < 3 || bricks.fours >= MOST_FOURS) {
            return false;
        }
        takeSet(seat, FOUR, tile);
        makeFour(seat);
        return true;
    }

    public boolean hide(int kind) {
        if (!mayMakeFour() || at(turn).tiles.free(kind) < 4) {
            return false;
        }
        at(turn).tiles.layDown(HIDDEN_FOUR, kind);
        makeFour(turn);
        return true;
    }

    public boolean add(int kind) {
        if (!mayMakeFour() || !at(turn).tiles.addToThree(kind)) {
            return false;
        }
        tile = kind;
        phase = ADDED;
        return true;
    }

    public boolean win() {
        if (phase != TO_DISCARD || tile == NONE || weighHand(turn, true) == 0) {
            return false;
        }
        int got = bets * BET_POINTS;
        bets = 0;
        for (int i = 1; i < SEATS; i++) {
            int payer = turn + i & 3;
            int times = turn == dealer || payer == dealer ? 2 : 1;
            int due = hundreds(judge.base * times) + 100 * stays;
            at(payer).points -= due;
            got += due;
        }
        at(turn).points += got;
        recordWin(turn, NONE, got);
        endHand(turn == dealer, turn != dealer);
        return true;
    }

    public boolean claim(int seat) {
        if (phase != DISCARDED && phase != ADDED || !isSeat(seat) || seat == turn) {
            return false;
        }
        Seat player = at(seat);
        if (player.says || player.letGo) {
            return false;
        }
        long waiting = player.tiles.waiting();
        if (!holds(waiting, tile) || (waiting & player.thrownKinds) != 0) {
            return false;
        }
        if (weighHand(seat, false) == 0) {
            return false;
        }
        player.says = true;
        return true;
    }

    public boolean nine() {
        if (phase != TO_DISCARD || broken || at(turn).discards > 0) {
            return false;
        }
        if (Long.bitCount(at(turn).tiles.kinds() & ENDS) < GIVE_UP_ENDS) {
            return false;
        }
        endHand(true, false);
        return true;
    }

    public int hand(int seat, int kind) {
        return isSeat(seat) ? at(seat).tiles.free(kind) : 0;
    }

    public int laid(int seat, int i, int what) {
        if (!isSeat(seat)) {
            return NONE;
        }
        Tiles tiles = at(seat).tiles;
        if (i < 0 || i >= tiles.laidDown || i >= MOST_SETS) {
            return NONE;
        }
        if (what == 0) {
            return tiles.sort[i];
        }
        return what == 1 ? tiles.low[i] : NONE;
    }

    public int river(int seat, int i) throws NoSuchElementException {
        if (!isSeat(seat) || i < 0 || i >= at(seat).discards) {
            throw new NoSuchElementException("no such discard");
        }
        return at(seat).thrown(i);
    }

    public long waits(int seat) {
        return isSeat(seat) ? at(seat).tiles.waiting() : 0;
    }

    public int seat(int seat, int what) {
        if (!isSeat(seat)) {
            return NONE;
        }
        Seat player = at(seat);
        switch (what) {
            case 0: return player.points;
            case 1: return player.bet;
            case 2: return player.letGo ? 1 : 0;
            case 3: return windOf(seat);
            case 4: return player.discards;
            case 5: return player.tiles.laidDown;
            case 6: return player.tiles.isOpen() ? 1 : 0;
            case 7: return player.says ? 1 : 0;
            default: return NONE;
        }
    }

    public int won(int i, int what) {
        return isWin(i) ? wins[i].part(what) : NONE;
    }

    public long forms(int i) {
        return isWin(i) ? wins[i].made : 0;
    }

    public int count(int what) {
        switch (what) {
            case 0: return phase;
            case 1: return phase == IDLE ? NONE : turn;
            case 2: return dealer;
            case 3: return round;
            case 4: return stays;
            case 5: return bets;
            case 6: return bricks.left();
            case 7: return bricks.fours;
            case 8: return bricks.signs();
            case 9: return ended ? 1 : 0;
            case 10: return handsEnded;
            case 11: return winCount;
            case 12: return phase == IDLE ? NONE : tile;
            default: return NONE;
        }
    }

    public int wall(int place) throws NoSuchElementException {
        int kind = bricks.kindAt(place);
        if (kind == NONE) {
            throw new NoSuchElementException("no such place");
        }
        return kind;
    }

    public void clear() {
        deskTiles.empty();
    }

    public boolean lay(int kind, int n) {
        if (!isKind(kind) || n < 1 || n > 4) {
            return false;
        }
        if (deskTiles.all(kind) + n > 4 || deskTiles.size() + n > FULL_SIZE) {
            return false;
        }
        deskTiles.put(kind, n);
        return true;
    }

    public boolean set(int sort, int kind) {
        if (!isKind(kind) || sort < RUN || sort > HIDDEN_FOUR) {
            return false;
        }
        if (sort == RUN && !startsRun(kind) || deskTiles.size() + 3 > FULL_SIZE) {
            return false;
        }
        int last = sort == RUN ? kind + 2 : kind;
        int each = tilesOfEach(sort);
        for (int k = kind; k <= last; k++) {
            if (deskTiles.all(k) + each > 4) {
                return false;
            }
        }
        for (int k = kind; k <= last; k++) {
            deskTiles.put(k, each);
        }
        deskTiles.layDown(sort, kind);
        return true;
    }

    public int worth(int kind, boolean drawn, long told, int winds, int dear) {
        deskJudge.judge(deskTiles, kind, drawn, told, winds, dear & 63);
        return deskJudge.base;
    }

    public int desk(int what) {
        switch (what) {
            case 0: return deskJudge.base;
            case 1: return deskJudge.han;
            case 2: return deskJudge.fu;
            case 3: return deskJudge.ways;
            default: return NONE;
        }
    }

    public long deskForms() {
        return deskJudge.best;
    }

    public long deskWaits() {
        return deskTiles.waiting();
    }

    private static boolean isSeat(int seat) {
        return seat >= 0 && seat < SEATS;
    }

    private static boolean isKind(int kind) {
        return kind >= 0 && kind < KINDS;
    }

    private static boolean startsRun(int kind) {
        return kind >= 0 && kind < FIRST_WIND && kind % 9 <= 6;
    }

    private static boolean holds(long kinds, int kind) {
        return kind >= 0 && kind < KINDS && (kinds >>> kind & 1) != 0;
    }

    private static int tilesOfEach(int sort) {
        if (sort == RUN) {
            return 1;
        }
        return sort == THREE ? 3 : 4;
    }

    private static int hundreds(int points) {
        return (points + 99) / 100 * 100;
    }

    private boolean isWin(int i) {
        return i >= 0 && i < winCount && i < SEATS;
    }

    /** The SEAT of a number that may have gone round. */
    private Seat at(int seat) {
        return players[seat & 3];
    }

    private int windOf(int seat) {
        return seat - dealer & 3;
    }

    private void drawTile(int seat, boolean behind) {
        turn = seat & 3;
        phase = TO_DISCARD;
        behindFour = behind;
        barred = 0;
        tile = behind ? bricks.drawBehindFour() : bricks.draw();
        Seat player = at(turn);
        player.tiles.put(tile, 1);
        if (player.bet == 0) {
            player.letGo = false;
        }
    }

    private boolean mayThrow(int kind) {
        Seat player = at(turn);
        if (player.tiles.free(kind) == 0 || holds(barred, kind)) {
            return false;
        }
        return player.bet == 0 || kind == tile;
    }

    /** Asked when the discard has left the hand, as the WAITS behind it count. */
    private boolean mayBet(Seat player) {
        return player.bet == 0 && !player.tiles.isOpen() && player.points >= BET_POINTS
            && bricks.left() >= BET_TILES && player.tiles.waiting() != 0;
    }

    private boolean someoneSays() {
        for (int i = 0; i < SEATS; i++) {
            if (at(i).says) {
                return true;
            }
        }
        return false;
    }

    private boolean mayClaimSet(int seat) {
        return phase == DISCARDED && isSeat(seat) && seat != turn && at(seat).bet == 0
            && bricks.left() > 0 && !someoneSays();
    }

    /** What would have made a RUN with the two tiles that the discard was added to at an end. */
    private long otherEnd(int low) {
        if (tile == low && startsRun(low + 1)) {
            return 1L << low + 3;
        }
        if (tile == low + 2 && low > 0 && startsRun(low - 1)) {
            return 1L << low - 1;
        }
        return 0;
    }

    /** Whether a tile that is not barred stays in the hand as one of each used KIND goes. */
    private static boolean keepsOther(Tiles tiles, long used, long bars) {
        for (int k = 0; k < KINDS; k++) {
            int kept = tiles.free[k] - (holds(used, k) ? 1 : 0);
            if (kept > 0 && !holds(bars, k)) {
                return true;
            }
        }
        return false;
    }

    /** LETTING GO and the owed bet come first: the claiming SEAT WAITS by the hand it had. */
    private void takeSet(int seat, int sort, int low) {
        letTileGo();
        breakHand();
        Tiles tiles = at(seat).tiles;
        tiles.put(tile, 1);
        tiles.layDown(sort, low);
        turn = seat & 3;
        phase = TO_DISCARD;
        tile = NONE;
    }

    private void letTileGo() {
        for (int i = 1; i < SEATS; i++) {
            Seat other = at(turn + i);
            if (other.tiles.waitsFor(tile)) {
                other.letGo = true;
            }
        }
        Seat player = at(turn);
        if (player.owes) {
            player.owes = false;
            player.points -= BET_POINTS;
            bets++;
        }
    }

    private void breakHand() {
        broken = true;
        for (int i = 0; i < SEATS; i++) {
            at(i).atOnce = false;
        }
    }

    private boolean mayMakeFour() {
        return phase == TO_DISCARD && tile != NONE && at(turn).bet == 0
            && bricks.left() > 0 && bricks.fours < MOST_FOURS;
    }

    private void makeFour(int seat) {
        breakHand();
        drawTile(seat, true);
    }

    /** Leaves the WORTH of the hand with the tile in the judge; answers its BASE. */
    private int weighHand(int seat, boolean drawn) {
        Seat player = at(seat);
        if (!drawn) {
            player.tiles.put(tile, 1);
        }
        long told = toldForms(player, drawn) | firstDraw(seat, drawn);
        int dear = bricks.dearTiles(player.tiles, player.bet != 0);
        judge.judge(player.tiles, tile, drawn, told, windOf(seat) | round << 2, dear);
        if (!drawn) {
            player.tiles.take(tile, 1);
        }
        return judge.base;
    }

    private long toldForms(Seat player, boolean drawn) {
        long told = 0;
        if (player.bet == BET) {
            told |= 1L << Forms.BET;
        }
        if (player.bet == FIRST_BET) {
            told |= 1L << Forms.FIRST_BET;
        }
        if (player.atOnce) {
            told |= 1L << Forms.AT_ONCE;
        }
        if (drawn && behindFour) {
            told |= 1L << Forms.BEHIND_FOUR;
        }
        if (phase == ADDED) {
            told |= 1L << Forms.ROBBED;
        }
        if (bricks.left() == 0 && phase == DISCARDED) {
            told |= 1L << Forms.LAST_TILE;
        }
        if (bricks.left() == 0 && drawn && !behindFour) {
            told |= 1L << Forms.LAST_DRAW;
        }
        return told;
    }

    private long firstDraw(int seat, boolean drawn) {
        if (!drawn || broken || at(seat).discards > 0) {
            return 0;
        }
        return 1L << (seat == dealer ? Forms.HEAVEN : Forms.EARTH);
    }

    private void winByTile() {
        boolean dealerWon = false;
        int extra = 300 * stays;
        for (int i = 1; i < SEATS; i++) {
            int seat = turn + i & 3;
            if (!at(seat).says) {
                continue;
            }
            int due = hundreds(weighHand(seat, false) * (seat == dealer ? 6 : 4)) + extra;
            int got = due + bets * BET_POINTS;
            at(turn).points -= due;
            at(seat).points += got;
            recordWin(seat, turn, got);
            dealerWon = dealerWon || seat == dealer;
            // STAYS and BETS are for the first alone.
            extra = 0;
            bets = 0;
        }
        endHand(dealerWon, !dealerWon);
    }

    private void recordWin(int seat, int payer, int got) {
        if (winCount < 0 || winCount >= SEATS) {
            return;
        }
        Win entry = wins[winCount];
        winCount++;
        entry.seat = seat;
        entry.payer = payer;
        entry.base = judge.base;
        entry.han = judge.han;
        entry.fu = judge.fu;
        entry.made = judge.best;
        entry.got = got;
        entry.kind = tile;
    }

    private void endUnwon() {
        int waiting = 0;
        for (int i = 0; i < SEATS; i++) {
            if (at(i).tiles.waiting() != 0) {
                waiting++;
            }
        }
        boolean dealerWaits = at(dealer).tiles.waiting() != 0;
        if (waiting > 0 && waiting < SEATS) {
            int gain = UNWON_POINTS / waiting;
            int loss = UNWON_POINTS / (SEATS - waiting);
            for (int i = 0; i < SEATS; i++) {
                at(i).points += at(i).tiles.waiting() != 0 ? gain : -loss;
            }
        }
        endHand(dealerWaits, false);
    }

    private void endHand(boolean dealerStays, boolean othersWon) {
        phase = IDLE;
        handsEnded++;
        int nextDealer = dealerStays ? dealer : dealer + 1 & 3;
        int nextRound = !dealerStays && nextDealer == 0 ? round + 1 : round;
        if (someoneIsBroke() || nextRound > LAST_ROUND) {
            ended = true;
            at(richest()).points += bets * BET_POINTS;
            bets = 0;
            return;
        }
        dealer = nextDealer;
        round = nextRound;
        stays = othersWon ? 0 : stays + 1;
    }

    private boolean someoneIsBroke() {
        for (int i = 0; i < SEATS; i++) {
            if (at(i).points < 0) {
                return true;
            }
        }
        return false;
    }

    private int richest() {
        int best = 0;
        for (int i = 1; i < SEATS; i++) {
            if (at(i).points > at(best).points) {
                best = i;
            }
        }
        return best;
    }

    /** The numbers of the FORMS, and what HAN they have. */
    private static final class Forms {
        static final int BET = 0;
        static final int FIRST_BET = 1;
        static final int AT_ONCE = 2;
        static final int DRAWN = 3;
        static final int LAST_DRAW = 4;
        static final int LAST_TILE = 5;
        static final int BEHIND_FOUR = 6;
        static final int ROBBED = 7;
        static final int NO_ENDS = 8;
        static final int FLAT = 9;
        static final int LIKE_RUNS = 10;
        static final int DRAGON = 11;
        static final int SEAT_WIND = 14;
        static final int ROUND_WIND = 15;
        static final int SEVEN_PAIRS = 16;
        static final int RUNS_OF_ALL_SUITS = 17;
        static final int ONE_TO_NINE = 18;
        static final int NO_RUNS = 19;
        static final int THREE_HIDDEN = 20;
        static final int THREE_FOURS = 21;
        static final int THREES_OF_ALL_SUITS = 22;
        static final int ENDS_IN_EACH = 23;
        static final int ALL_ENDS = 24;
        static final int TWO_DRAGONS = 25;
        static final int SUIT_AND_HONOURS = 26;
        static final int TERMINALS_IN_EACH = 27;
        static final int TWICE_LIKE_RUNS = 28;
        static final int ONE_SUIT = 29;
        static final int THIRTEEN = 32;
        static final int FOUR_HIDDEN = 33;
        static final int ALL_DRAGONS = 34;
        static final int THREE_WINDS = 35;
        static final int FOUR_WINDS = 36;
        static final int ALL_HONOURS = 37;
        static final int ALL_TERMINALS = 38;
        static final int ALL_GREEN = 39;
        static final int NINE_GATES = 40;
        static final int FOUR_FOURS = 41;
        static final int HEAVEN = 42;
        static final int EARTH = 43;

        static final long GREAT = 0xFFFL << THIRTEEN;
        static final long TOLD = 7L | 0xFL << LAST_DRAW | 3L << HEAVEN;
        static final long NOT_OPEN = 0xFL | 3L << FLAT | 1L << TWICE_LIKE_RUNS;
        static final int GREAT_HAN = 13;

        private static final int[] HAN = {
            1, 2, 1, 1, 1, 1, 1, 1, 1, 1, 1, 1, 1, 1, 1, 1,
            2, 2, 2, 2, 2, 2, 2, 2, 2, 2, 3, 3, 3, 6
        };
        private static final int[] OPEN_HAN = {
            0, 0, 0, 0, 1, 1, 1, 1, 1, 0, 0, 1, 1, 1, 1, 1,
            2, 1, 1, 2, 2, 2, 2, 1, 2, 2, 2, 2, 0, 5
        };

        static int hanOf(long forms, boolean open) {
            int sum = 0;
            for (int i = 0; i < HAN.length && i < OPEN_HAN.length; i++) {
                if ((forms >>> i & 1) != 0) {
                    sum += open ? OPEN_HAN[i] : HAN[i];
                }
            }
            return sum;
        }

        static int baseOf(int fu, int han) {
            if (han <= 4) {
                int base = fu << 2 + han;
                return base < 2000 ? base : 2000;
            }
            if (han == 5) {
                return 2000;
            }
            if (han <= 7) {
                return 3000;
            }
            if (han <= 10) {
                return 4000;
            }
            return han <= 12 ? 6000 : 8000;
        }
    }

    /** The tiles of one hand: free ones, and SETS laid down. */
    private static final class Tiles {
        final int[] free = new int[KINDS];
        /** Free and laid down ones together. */
        private final int[] all = new int[KINDS];
        final int[] sort = new int[MOST_SETS];
        final int[] low = new int[MOST_SETS];
        int laidDown;
        private int loose;

        void empty() {
            for (int k = 0; k < KINDS; k++) {
                free[k] = 0;
                all[k] = 0;
            }
            laidDown = 0;
            loose = 0;
        }

        int free(int kind) {
            return isKind(kind) ? free[kind] : 0;
        }

        int all(int kind) {
            return isKind(kind) ? all[kind] : 0;
        }

        /** How many tiles, a SET counting three. */
        int size() {
            return loose + 3 * laidDown;
        }

        long kinds() {
            long kinds = 0;
            for (int k = 0; k < KINDS; k++) {
                if (all[k] > 0) {
                    kinds |= 1L << k;
                }
            }
            return kinds;
        }

        boolean isOpen() {
            for (int i = 0; i < laidDown && i < MOST_SETS; i++) {
                if (sort[i] != HIDDEN_FOUR) {
                    return true;
                }
            }
            return false;
        }

        void put(int kind, int n) {
            if (isKind(kind)) {
                free[kind] += n;
                all[kind] += n;
                loose += n;
            }
        }

        void take(int kind, int n) {
            put(kind, -n);
        }

        /** The SET's tiles are free ones before. */
        void layDown(int sortOfSet, int kind) {
            int last = sortOfSet == RUN ? kind + 2 : kind;
            if (laidDown < 0 || laidDown >= MOST_SETS || !isKind(kind) || !isKind(last)) {
                return;
            }
            int each = tilesOfEach(sortOfSet);
            for (int k = kind; k <= last; k++) {
                free[k] -= each;
                loose -= each;
            }
            sort[laidDown] = sortOfSet;
            low[laidDown] = kind;
            laidDown++;
        }

        boolean addToThree(int kind) {
            if (free(kind) == 0) {
                return false;
            }
            for (int i = 0; i < laidDown && i < MOST_SETS; i++) {
                if (sort[i] == THREE && low[i] == kind) {
                    sort[i] = FOUR;
                    free[kind]--;
                    loose--;
                    return true;
                }
            }
            return false;
        }

        long waiting() {
            long kinds = 0;
            for (int k = 0; k < KINDS; k++) {
                if (waitsFor(k)) {
                    kinds |= 1L << k;
                }
            }
            return kinds;
        }

        boolean waitsFor(int kind) {
            if (size() != FULL_SIZE - 1 || !isKind(kind) || all[kind] >= 4) {
                return false;
            }
            put(kind, 1);
            boolean full = isSevenPairs() || isThirteen() || isSetsAndPair();
            take(kind, 1);
            return full;
        }

        boolean isSevenPairs() {
            for (int k = 0; k < KINDS; k++) {
                if (free[k] != 0 && free[k] != 2) {
                    return false;
                }
            }
            return laidDown == 0 && loose == FULL_SIZE;
        }

        boolean isThirteen() {
            return laidDown == 0 && loose == FULL_SIZE && kinds() == ENDS;
        }

        private boolean isSetsAndPair() {
            for (int k = 0; k < KINDS; k++) {
                if (free[k] >= 2 && splitsBeside(k)) {
                    return true;
                }
            }
            return false;
        }

        /**
         * Whether all but the PAIR falls apart into SETS. Three like RUNS are also three THREES, so
         * three of the lowest KIND can always go as a THREE.
         */
        private boolean splitsBeside(int pair) {
            int runsBefore = 0;
            int runsTwoBefore = 0;
            for (int k = 0; k < KINDS; k++) {
                int left = free[k] - (k == pair ? 2 : 0) - runsBefore - runsTwoBefore;
                if (left < 0) {
                    return false;
                }
                int runs = left % 3;
                if (runs > 0 && !startsRun(k)) {
                    return false;
                }
                runsTwoBefore = runsBefore;
                runsBefore = runs;
            }
            return true;
        }
    }

    /** What one SEAT has, in the GAME and in the hand. */
    private static final class Seat {
        /** There are 70 draws and at most 16 claims in a hand, so no SEAT discards more. */
        private static final int MOST_DISCARDS = 86;

        final Tiles tiles = new Tiles();
        private final int[] thrown = new int[MOST_DISCARDS];
        int discards;
        long thrownKinds;
        int points = 25000;
        int bet;
        /** Whether the 1,000 of its BET are still to go onto the table. */
        boolean owes;
        boolean atOnce;
        boolean letGo;
        boolean says;

        void startHand() {
            tiles.empty();
            discards = 0;
            thrownKinds = 0;
            bet = 0;
            owes = false;
            atOnce = false;
            letGo = false;
            says = false;
        }

        void throwTile(int kind) {
            if (discards < 0 || discards >= MOST_DISCARDS) {
                return;
            }
            thrown[discards] = kind;
            discards++;
            thrownKinds |= 1L << kind;
        }

        int thrown(int i) {
            return i >= 0 && i < MOST_DISCARDS ? thrown[i] : NONE;
        }
    }

    /** The WALL of the latest hand, and how far it is used up. */
    private static final class Wall {
        private static final int PLACES = 136;
        private static final int FIRST_DRAW = 52;
        private static final int BEHIND_FOURS = 122;
        private static final int FIRST_SIGN = 126;

        private final int[] kinds = new int[PLACES];
        private boolean stands;
        private int next;
        int fours;

        void build(long seed) {
            for (int i = 0; i < PLACES; i++) {
                kinds[i] = i / 4;
            }
            long x = seed;
            for (int i = PLACES - 1; i > 0; i--) {
                x = x * 6364136223846793005L + 1442695040888963407L;
                int j = (int) ((x >>> 33) % (i + 1));
                int kind = kinds[i];
                kinds[i] = kinds[j];
                kinds[j] = kind;
            }
            stands = true;
            next = FIRST_DRAW;
            fours = 0;
        }

        int kindAt(int place) {
            return stands && place >= 0 && place < PLACES ? kinds[place] : NONE;
        }

        int left() {
            return stands ? BEHIND_FOURS - fours - next : 0;
        }

        int signs() {
            return stands ? 1 + fours : 0;
        }

        int draw() {
            next++;
            return kindAt(next - 1);
        }

        int drawBehindFour() {
            fours++;
            return kindAt(BEHIND_FOURS + fours - 1);
        }

        int dearTiles(Tiles tiles, boolean hiddenToo) {
            int sum = 0;
            for (int i = 0; i < signs(); i++) {
                int place = FIRST_SIGN + 2 * i;
                sum += tiles.all(behind(kindAt(place)));
                if (hiddenToo) {
                    sum += tiles.all(behind(kindAt(place + 1)));
                }
            }
            return sum;
        }

        /** The KIND that a SIGN makes dear. */
        private static int behind(int sign) {
            if (sign < FIRST_WIND) {
                return sign % 9 == 8 ? sign - 8 : sign + 1;
            }
            if (sign == 30) {
                return 27;
            }
            return sign == 33 ? 31 : sign + 1;
        }
    }

    /** One win of the latest hand. */
    private static final class Win {
        int seat;
        int payer;
        int base;
        int han;
        int fu;
        int got;
        int kind;
        long made;

        int part(int what) {
            switch (what) {
                case 0: return seat;
                case 1: return payer;
                case 2: return base;
                case 3: return han;
                case 4: return fu;
                case 5: return got;
                case 6: return kind;
                default: return NONE;
            }
        }
    }

    /** Finds the best of all WAYS in which a hand falls apart. */
    private static final class Judge {
        /** What the WINNER completed, if it was no SET. */
        private static final int THE_PAIR = MOST_SETS;

        int base;
        int han;
        int fu;
        long best;
        int ways;

        private Tiles tiles;
        private int winner;
        private boolean drawn;
        private boolean open;
        private int seatWind;
        private int roundWind;
        private int dear;
        /** The FORMS that all WAYS share. */
        private long shared;
        /** The WAY that is looked at: SETS laid down first. */
        private final int[] sort = new int[MOST_SETS];
        private final int[] low = new int[MOST_SETS];
        private int pair;
        private long runs;
        private long threes;
        private final int[] mayBeThrees = new int[MOST_SETS];

        void judge(Tiles full, int kind, boolean own, long told, int winds, int dearTiles) {
            base = 0;
            han = 0;
            fu = 0;
            best = 0;
            ways = 0;
            if (full == null || full.size() != FULL_SIZE || full.free(kind) == 0) {
                return;
            }
            tiles = full;
            winner = kind;
            drawn = own;
            open = full.isOpen();
            seatWind = FIRST_WIND + (winds & 3);
            roundWind = FIRST_WIND + (winds >>> 2 & 3);
            dear = dearTiles;
            shared = toldOnes(told) | tileForms(full.kinds());
            if (full.isSevenPairs()) {
                offer(shared | 1L << Forms.SEVEN_PAIRS, 25);
            }
            if (full.isThirteen()) {
                offer(shared | 1L << Forms.THIRTEEN, 30);
            }
            // A WAY of the first sort is told by its PAIR and by which KINDS are THREES in it.
            for (int k = 0; k < KINDS; k++) {
                pair = k;
                int choices = full.free[k] >= 2 ? 1 << findThrees() : 0;
                for (int choice = 0; choice < choices; choice++) {
                    if (fillWay(chosenThrees(choice))) {
                        weighWay();
                    }
                }
            }
        }

        private long toldOnes(long told) {
            long forms = told & Forms.TOLD;
            if ((forms >>> Forms.FIRST_BET & 1) != 0) {
                forms &= ~(1L << Forms.BET);
            }
            return drawn ? forms | 1L << Forms.DRAWN : forms;
        }

        private static long bit(boolean holds, int form) {
            return holds ? 1L << form : 0;
        }

        private long tileForms(long kinds) {
            boolean honours = (kinds & HONOURS) != 0;
            int suits = 0;
            for (int s = 0; s < 3; s++) {
                suits += (kinds & SUIT << 9 * s) != 0 ? 1 : 0;
            }
            return bit((kinds & ENDS) == 0, Forms.NO_ENDS)
                | bit((kinds & ~ENDS) == 0, Forms.ALL_ENDS)
                | bit(suits == 1 && honours, Forms.SUIT_AND_HONOURS)
                | bit(suits == 1 && !honours, Forms.ONE_SUIT)
                | bit((kinds & ~HONOURS) == 0, Forms.ALL_HONOURS)
                | bit((kinds & ~TERMINALS) == 0, Forms.ALL_TERMINALS)
                | bit((kinds & ~GREENS) == 0, Forms.ALL_GREEN)
                | bit(isNineGates(kinds), Forms.NINE_GATES);
        }

        private boolean isNineGates(long kinds) {
            if (tiles.laidDown > 0) {
                return false;
            }
            for (int first = 0; first < FIRST_WIND; first += 9) {
                if (kinds == SUIT << first) {
                    return tiles.free(first) >= 3 && tiles.free(first + 8) >= 3;
                }
            }
            return false;
        }

        /** Finds the KINDS that may be THREES beside the PAIR; answers how many. */
        private int findThrees() {
            int most = 0;
            for (int k = 0; k < KINDS && most < MOST_SETS; k++) {
                if (tiles.free[k] - (k == pair ? 2 : 0) >= 3) {
                    mayBeThrees[most] = k;
                    most++;
                }
            }
            return most;
        }

        private long chosenThrees(int choice) {
            long chosen = 0;
            for (int i = 0; i < MOST_SETS; i++) {
                if ((choice >>> i & 1) != 0) {
                    chosen |= 1L << mayBeThrees[i];
                }
            }
            return chosen;
        }

        private boolean fillWay(long chosen) {
            int made = 0;
            while (made < tiles.laidDown && made < MOST_SETS) {
                sort[made] = tiles.sort[made];
                low[made] = tiles.low[made];
                made++;
            }
            int runsBefore = 0;
            int runsTwoBefore = 0;
            for (int k = 0; k < KINDS; k++) {
                int three = holds(chosen, k) ? 1 : 0;
                int left = tiles.free[k] - (k == pair ? 2 : 0) - 3 * three
                    - runsBefore - runsTwoBefore;
                if (left < 0 || left > 0 && !startsRun(k) || made + three + left > MOST_SETS) {
                    return false;
                }
                for (int i = 0; i < three + left && made < MOST_SETS; i++) {
                    sort[made] = i < three ? THREE : RUN;
                    low[made] = k;
                    made++;
                }
                runsTwoBefore = runsBefore;
                runsBefore = left;
            }
            return made == MOST_SETS;
        }

        private void weighWay() {
            runs = 0;
            threes = 0;
            for (int i = 0; i < MOST_SETS; i++) {
                if (sort[i] == RUN) {
                    runs |= 1L << low[i];
                } else {
                    threes |= 1L << low[i];
                }
            }
            long forms = shared | likeRuns() | setForms() | endForms();
            for (int i = tiles.laidDown; i < MOST_SETS; i++) {
                if (mayHaveCompleted(i)) {
                    weighCompleted(forms, i);
                }
            }
            if (pair == winner) {
                weighCompleted(forms, THE_PAIR);
            }
        }

        /** Of like SETS the first alone counts. */
        private boolean mayHaveCompleted(int i) {
            int last = sort[i] == RUN ? low[i] + 2 : low[i];
            if (winner < low[i] || winner > last) {
                return false;
            }
            for (int j = tiles.laidDown; j < i; j++) {
                if (sort[j] == sort[i] && low[j] == low[i]) {
                    return false;
                }
            }
            return true;
        }

        private long likeRuns() {
            int pairs = 0;
            for (int i = 0; i < MOST_SETS; i++) {
                int before = 0;
                for (int j = 0; j < i; j++) {
                    before += sort[i] == RUN && sort[j] == RUN && low[i] == low[j] ? 1 : 0;
                }
                pairs += before % 2;
            }
            return bit(pairs == 1, Forms.LIKE_RUNS) | bit(pairs == 2, Forms.TWICE_LIKE_RUNS);
        }

        private long setForms() {
            int fours = 0;
            boolean oneToNine = false;
            for (int i = 0; i < MOST_SETS; i++) {
                fours += sort[i] == FOUR || sort[i] == HIDDEN_FOUR ? 1 : 0;
            }
            for (int s = 0; s < 3; s++) {
                oneToNine = oneToNine || (runs >>> 9 * s & 0x49) == 0x49;
            }
            int dragons = Long.bitCount(threes & DRAGONS);
            int winds = Long.bitCount(threes & WINDS);
            return (threes & DRAGONS) >>> 31 << Forms.DRAGON
                | bit(holds(threes, seatWind), Forms.SEAT_WIND)
                | bit(holds(threes, roundWind), Forms.ROUND_WIND)
                | bit((runs & runs >>> 9 & runs >>> 18 & SUIT) != 0, Forms.RUNS_OF_ALL_SUITS)
                | bit(oneToNine, Forms.ONE_TO_NINE)
                | bit(runs == 0, Forms.NO_RUNS)
                | bit(fours == 3, Forms.THREE_FOURS)
                | bit((threes & threes >>> 9 & threes >>> 18 & SUIT) != 0,
                    Forms.THREES_OF_ALL_SUITS)
                | bit(dragons == 2 && holds(DRAGONS, pair), Forms.TWO_DRAGONS)
                | bit(dragons == 3, Forms.ALL_DRAGONS)
                | bit(winds == 3 && holds(WINDS, pair), Forms.THREE_WINDS)
                | bit(winds == 4, Forms.FOUR_WINDS)
                | bit(fours == 4, Forms.FOUR_FOURS);
        }

        private long endForms() {
            boolean ends = holds(ENDS, pair);
            boolean terminals = holds(TERMINALS, pair);
            boolean honours = holds(HONOURS, pair) || (threes & HONOURS) != 0;
            for (int i = 0; i < MOST_SETS; i++) {
                long kinds = (sort[i] == RUN ? 7L : 1L) << low[i];
                ends = ends && (kinds & ENDS) != 0;
                terminals = terminals && (kinds & TERMINALS) != 0;
            }
            return bit(ends && honours && runs != 0, Forms.ENDS_IN_EACH)
                | bit(terminals && runs != 0, Forms.TERMINALS_IN_EACH);
        }

        private void weighCompleted(long forms, int completed) {
            int hidden = 0;
            for (int i = 0; i < MOST_SETS; i++) {
                hidden += sort[i] != RUN && isHidden(i, completed) ? 1 : 0;
            }
            boolean flat = threes == 0 && !open && pairFu() == 0 && completed < MOST_SETS
                && waitFu(completed) == 0;
            long more = bit(flat, Forms.FLAT)
                | bit(hidden == 3, Forms.THREE_HIDDEN)
                | bit(hidden == 4, Forms.FOUR_HIDDEN);
            offer(forms | more, fuOf(completed, flat));
        }

        private boolean isHidden(int i, int completed) {
            if (i < tiles.laidDown) {
                return sort[i] == HIDDEN_FOUR;
            }
            return drawn || i != completed;
        }

        private int fuOf(int completed, boolean flat) {
            int sum = 20 + pairFu() + waitFu(completed);
            if (!drawn && !open) {
                sum += 10;
            }
            if (drawn && !flat) {
                sum += 2;
            }
            for (int i = 0; i < MOST_SETS; i++) {
                if (sort[i] != RUN) {
                    int each = sort[i] == THREE ? 2 : 8;
                    each = isHidden(i, completed) ? 2 * each : each;
                    sum += holds(ENDS, low[i]) ? 2 * each : each;
                }
            }
            sum = (sum + 9) / 10 * 10;
            return open ? Math.max(30, sum) : sum;
        }

        private int pairFu() {
            return (pair >= FIRST_DRAGON ? 2 : 0) + (pair == seatWind ? 2 : 0)
                + (pair == roundWind ? 2 : 0);
        }

        private int waitFu(int completed) {
            if (completed < 0 || completed >= MOST_SETS) {
                return 2;
            }
            if (sort[completed] != RUN) {
                return 0;
            }
            int number = low[completed] % 9;
            int step = winner - low[completed];
            return step == 1 || step == 2 && number == 0 || step == 0 && number == 6 ? 2 : 0;
        }

        private void offer(long allForms, int newFu) {
            ways++;
            long forms = open ? allForms & ~Forms.NOT_OPEN : allForms;
            long great = forms & Forms.GREAT;
            int newHan = 0;
            int newBase = 0;
            if (great != 0) {
                forms = great;
                newHan = Forms.GREAT_HAN * Long.bitCount(great);
                newBase = 8000 * Long.bitCount(great);
            } else if (forms != 0) {
                newHan = Forms.hanOf(forms, open) + dear;
                newBase = Forms.baseOf(newFu, newHan);
            }
            if (ways == 1 || isBetter(newBase, newHan, newFu, forms)) {
                base = newBase;
                han = newHan;
                fu = newFu;
                best = forms;
            }
        }

        private boolean isBetter(int newBase, int newHan, int newFu, long forms) {
            if (newBase != base) {
                return newBase > base;
            }
            if (newHan != han) {
                return newHan > han;
            }
            if (newFu != fu) {
                return newFu > fu;
            }
            return forms > best;
        }
    }
}
