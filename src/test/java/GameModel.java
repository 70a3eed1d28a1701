import java.util.ArrayList;
import java.util.Arrays;
import java.util.List;
import java.util.TreeSet;

/** Terms 1 and 3 of the document once more, told slowly with lists, to hold the class against. */
final class GameModel {
    static final class Player {
        List<Integer> free = new ArrayList<>();
        List<WorthModel.Group> laid = new ArrayList<>();
        List<Integer> river = new ArrayList<>();
        int points = 25000;
        int bet;
        boolean betOpen;
        boolean betPaid;
        boolean atOnce;
        boolean letGo;
        boolean says;
        /** The latest hand whose WAITS were found: they are asked for again and again. */
        private String asked = "";
        private long answered;

        long waits() {
            String now = free + " " + laid;
            if (!now.equals(asked)) {
                asked = now;
                answered = WorthModel.waits(free, laid);
            }
            return answered;
        }

        boolean waitsFor(int kind) {
            return (waits() >> kind & 1) == 1;
        }

        void drop(int kind, int n) {
            for (int i = 0; i < n; i++) {
                free.remove(Integer.valueOf(kind));
            }
        }

        int has(int kind) {
            return WorthModel.countOf(free, kind);
        }
    }

    record Win(int seat, int payer, int base, int han, int fu, int got, int kind, long forms) { }

    final Player[] players = {new Player(), new Player(), new Player(), new Player()};
    List<Integer> wall = List.of();
    List<Win> wins = new ArrayList<>();
    int phase;
    int turn = -1;
    int dealer;
    int round;
    int stays;
    int bets;
    int drawnTiles;
    int fours;
    int claimedSets;
    boolean ended;
    int hands;
    int tile = -1;
    boolean claimedNow;
    boolean behindFour;
    List<Integer> forbidden = new ArrayList<>();

    static List<Integer> build(long seed) {
        Integer[] tiles = new Integer[136];
        for (int i = 0; i < 136; i++) {
            tiles[i] = i;
        }
        long x = seed;
        for (int i = 135; i >= 1; i--) {
            x = x * 6364136223846793005L + 1442695040888963407L;
            int other = (int) Long.remainderUnsigned(x >>> 33, i + 1L);
            Integer kept = tiles[i];
            tiles[i] = tiles[other];
            tiles[other] = kept;
        }
        List<Integer> kinds = new ArrayList<>();
        for (int t : tiles) {
            kinds.add(t / 4);
        }
        return kinds;
    }

    int left() {
        return wall.isEmpty() ? 0 : 70 - drawnTiles - fours;
    }

    int next(int seat) {
        return seat == 3 ? 0 : seat + 1;
    }

    int wind(int seat) {
        return (seat + 4 - dealer) % 4;
    }

    boolean deal(long seed) {
        if (phase != 0 || ended) {
            return false;
        }
        wall = build(seed);
        wins = new ArrayList<>();
        drawnTiles = 0;
        fours = 0;
        claimedSets = 0;
        for (int seat = 0; seat < 4; seat++) {
            Player fresh = new Player();
            fresh.points = players[seat].points;
            int from = 13 * wind(seat);
            fresh.free.addAll(wall.subList(from, from + 13));
            players[seat] = fresh;
        }
        draw(dealer);
        return true;
    }

    private void draw(int seat) {
        take(seat, wall.get(52 + drawnTiles));
        drawnTiles++;
        behindFour = false;
    }

    private void drawBehindFour(int seat) {
        take(seat, wall.get(122 + fours));
        fours++;
        behindFour = true;
        for (Player player : players) {
            player.atOnce = false;
        }
    }

    private void take(int seat, int kind) {
        turn = seat;
        phase = 1;
        tile = kind;
        claimedNow = false;
        forbidden.clear();
        players[seat].free.add(kind);
        if (players[seat].bet == 0) {
            players[seat].letGo = false;
        }
    }

    boolean discard(int kind, boolean bet) {
        if (phase != 1) {
            return false;
        }
        Player player = players[turn];
        if (!player.free.contains(kind) || forbidden.contains(kind)) {
            return false;
        }
        if (player.bet > 0 && (bet || kind != tile)) {
            return false;
        }
        List<Integer> rest = WorthModel.without(player.free, kind);
        if (bet) {
            boolean allowed = !WorthModel.isOpen(player.laid) && player.points >= 1000
                && left() >= 4 && WorthModel.waits(rest, player.laid) != 0;
            if (!allowed) {
                return false;
            }
            player.bet = player.river.isEmpty() && claimedSets == 0 && fours == 0 ? 2 : 1;
        }
        player.atOnce = bet;
        player.free = rest;
        player.river.add(kind);
        tile = kind;
        phase = 2;
        claimedNow = false;
        forbidden.clear();
        return true;
    }

    boolean pass() {
        if (phase < 2) {
            return false;
        }
        List<Integer> winners = new ArrayList<>();
        for (int seat = next(turn); seat != turn; seat = next(seat)) {
            if (players[seat].says) {
                winners.add(seat);
            }
        }
        if (!winners.isEmpty()) {
            wonByTile(winners);
            return true;
        }
        over();
        if (phase == 3) {
            drawBehindFour(turn);
        } else if (left() > 0) {
            draw(next(turn));
        } else {
            unwon();
        }
        return true;
    }

    private void over() {
        for (int seat = 0; seat < 4; seat++) {
            if (seat != turn && players[seat].waitsFor(tile)) {
                players[seat].letGo = true;
            }
        }
        Player player = players[turn];
        if (player.bet > 0 && !player.betPaid) {
            player.betPaid = true;
            player.points -= 1000;
            bets++;
        }
    }

    private boolean mayClaim(int seat) {
        return phase == 2 && seat >= 0 && seat < 4 && seat != turn && left() > 0
            && players[seat].bet == 0 && Arrays.stream(players).noneMatch(p -> p.says);
    }

    boolean run(int seat, int low) {
        if (!mayClaim(seat) || seat != next(turn) || low < 0 || low >= 27 || low % 9 > 6) {
            return false;
        }
        List<Integer> others = new ArrayList<>(List.of(low, low + 1, low + 2));
        if (!others.remove(Integer.valueOf(tile))) {
            return false;
        }
        List<Integer> rest = WorthModel.without(players[seat].free, others.get(0), others.get(1));
        if (rest == null) {
            return false;
        }
        List<Integer> not = new ArrayList<>();
        for (int kind = 0; kind < 27; kind++) {
            List<Integer> three = new ArrayList<>(others);
            three.add(kind);
            three.sort(null);
            boolean isRun = three.get(0) + 1 == three.get(1) && three.get(1) + 1 == three.get(2)
                && three.get(0) / 9 == three.get(2) / 9;
            if (isRun) {
                not.add(kind);
            }
        }
        return claimSet(seat, new WorthModel.Group(0, low, false), rest, not);
    }

    boolean three(int seat) {
        if (!mayClaim(seat)) {
            return false;
        }
        List<Integer> rest = WorthModel.without(players[seat].free, tile, tile);
        return rest != null
            && claimSet(seat, new WorthModel.Group(1, tile, false), rest, List.of(tile));
    }

    private boolean claimSet(int seat, WorthModel.Group group, List<Integer> rest,
            List<Integer> not) {
        if (not.containsAll(rest)) {
            return false;
        }
        over();
        claimedSets++;
        for (Player player : players) {
            player.atOnce = false;
        }
        players[seat].free = rest;
        players[seat].laid.add(group);
        turn = seat;
        phase = 1;
        tile = -1;
        claimedNow = true;
        forbidden = new ArrayList<>(not);
        return true;
    }

    boolean four(int seat) {
        if (!mayClaim(seat) || players[seat].has(tile) < 3 || fours == 4) {
            return false;
        }
        over();
        claimedSets++;
        players[seat].drop(tile, 3);
        players[seat].laid.add(new WorthModel.Group(2, tile, false));
        drawBehindFour(seat);
        return true;
    }

    private boolean mayMakeFour() {
        return phase == 1 && !claimedNow && players[turn].bet == 0 && left() > 0 && fours < 4;
    }

    boolean hide(int kind) {
        if (!mayMakeFour() || players[turn].has(kind) != 4) {
            return false;
        }
        players[turn].drop(kind, 4);
        players[turn].laid.add(new WorthModel.Group(3, kind, false));
        drawBehindFour(turn);
        return true;
    }

    boolean add(int kind) {
        if (!mayMakeFour() || players[turn].has(kind) == 0) {
            return false;
        }
        int i = players[turn].laid.indexOf(new WorthModel.Group(1, kind, false));
        if (i < 0) {
            return false;
        }
        players[turn].drop(kind, 1);
        players[turn].laid.set(i, new WorthModel.Group(2, kind, false));
        tile = kind;
        phase = 3;
        return true;
    }

    private WorthModel weigh(int seat, boolean drawn) {
        Player player = players[seat];
        List<Integer> free = new ArrayList<>(player.free);
        if (!drawn) {
            free.add(tile);
        }
        long told = 0;
        told |= player.bet == 1 ? 1 : 0;
        told |= player.bet == 2 ? 2 : 0;
        told |= player.atOnce ? 4 : 0;
        told |= drawn && !behindFour && left() == 0 ? 16 : 0;
        told |= phase == 2 && left() == 0 ? 32 : 0;
        told |= drawn && behindFour ? 64 : 0;
        told |= phase == 3 ? 128 : 0;
        if (drawn && player.river.isEmpty() && fours == 0 && claimedSets == 0) {
            told |= 1L << (seat == dealer ? 42 : 43);
        }
        List<Integer> all = WorthModel.allTiles(free, player.laid);
        int dear = 0;
        for (int i = 0; i <= fours; i++) {
            dear += WorthModel.countOf(all, dearOf(wall.get(126 + 2 * i)));
            dear += player.bet > 0 ? WorthModel.countOf(all, dearOf(wall.get(127 + 2 * i))) : 0;
        }
        WorthModel model = new WorthModel();
        model.judge(free, player.laid, tile, drawn, told, wind(seat) + 4 * round, dear);
        return model;
    }

    static int dearOf(int sign) {
        int[] last = {8, 17, 26, 30, 33};
        int[] first = {0, 9, 18, 27, 31};
        for (int i = 0; i < 5; i++) {
            if (sign == last[i]) {
                return first[i];
            }
        }
        return sign + 1;
    }

    static int hundreds(int points) {
        while (points % 100 != 0) {
            points++;
        }
        return points;
    }

    boolean win() {
        if (phase != 1 || claimedNow) {
            return false;
        }
        WorthModel worth = weigh(turn, true);
        if (worth.base == 0) {
            return false;
        }
        int got = 0;
        for (int seat = 0; seat < 4; seat++) {
            if (seat != turn) {
                boolean twice = turn == dealer || seat == dealer;
                int due = hundreds(twice ? 2 * worth.base : worth.base) + 100 * stays;
                players[seat].points -= due;
                got += due;
            }
        }
        got += 1000 * bets;
        bets = 0;
        players[turn].points += got;
        wins.add(new Win(turn, -1, worth.base, worth.han, worth.fu, got, tile, worth.forms));
        then(turn == dealer, turn != dealer);
        return true;
    }

    private void wonByTile(List<Integer> winners) {
        for (int seat : winners) {
            WorthModel worth = weigh(seat, false);
            int due = hundreds(worth.base * (seat == dealer ? 6 : 4));
            boolean first = seat == winners.get(0);
            due += first ? 300 * stays : 0;
            players[turn].points -= due;
            int got = due + (first ? 1000 * bets : 0);
            players[seat].points += got;
            wins.add(new Win(seat, turn, worth.base, worth.han, worth.fu, got, tile, worth.forms));
        }
        bets = 0;
        then(winners.contains(dealer), !winners.contains(dealer));
    }

    boolean claim(int seat) {
        if (phase < 2 || seat < 0 || seat > 3 || seat == turn) {
            return false;
        }
        Player player = players[seat];
        if (player.says || player.letGo || !player.waitsFor(tile)) {
            return false;
        }
        for (int kind : player.river) {
            if (player.waitsFor(kind)) {
                return false;
            }
        }
        if (weigh(seat, false).base == 0) {
            return false;
        }
        player.says = true;
        return true;
    }

    boolean nine() {
        if (phase != 1 || claimedSets > 0 || fours > 0 || !players[turn].river.isEmpty()) {
            return false;
        }
        TreeSet<Integer> ends = new TreeSet<>(players[turn].free);
        ends.removeIf(k -> !WorthModel.end(k));
        if (ends.size() < 9) {
            return false;
        }
        then(true, false);
        return true;
    }

    private void unwon() {
        List<Integer> waiting = new ArrayList<>();
        for (int seat = 0; seat < 4; seat++) {
            if (players[seat].waits() != 0) {
                waiting.add(seat);
            }
        }
        int[] gain = {0, 3000, 1500, 1000, 0};
        int[] loss = {0, 1000, 1500, 3000, 0};
        for (int seat = 0; seat < 4; seat++) {
            boolean waits = waiting.contains(seat);
            players[seat].points += waits ? gain[waiting.size()] : -loss[waiting.size()];
        }
        then(waiting.contains(dealer), false);
    }

    private void then(boolean stay, boolean othersAlone) {
        phase = 0;
        hands++;
        boolean broke = Arrays.stream(players).anyMatch(p -> p.points < 0);
        boolean lastHand = !stay && dealer == 3 && round == 1;
        if (broke || lastHand) {
            ended = true;
            int most = Arrays.stream(players).mapToInt(p -> p.points).max().getAsInt();
            for (int seat = 0; seat < 4; seat++) {
                if (players[seat].points == most) {
                    players[seat].points += 1000 * bets;
                    break;
                }
            }
            bets = 0;
            return;
        }
        stays = othersAlone ? 0 : stays + 1;
        if (!stay) {
            round += dealer == 3 ? 1 : 0;
            dealer = next(dealer);
        }
    }

    /** Every answer that the document's questions about the GAME have, in a fixed order. */
    long[] answers() {
        List<Long> all = new ArrayList<>();
        int[] counts = {phase, phase == 0 ? -1 : turn, dealer, round, stays, bets, left(), fours,
            wall.isEmpty() ? 0 : fours + 1, ended ? 1 : 0, hands, wins.size(),
            phase == 0 ? -1 : tile};
        for (int count : counts) {
            all.add((long) count);
        }
        for (int seat = 0; seat < 4; seat++) {
            Player player = players[seat];
            int[] parts = {player.points, player.bet, player.letGo ? 1 : 0, wind(seat),
                player.river.size(), player.laid.size(), WorthModel.isOpen(player.laid) ? 1 : 0,
                player.says ? 1 : 0};
            for (int part : parts) {
                all.add((long) part);
            }
            for (int kind = 0; kind < 34; kind++) {
                all.add((long) player.has(kind));
            }
            for (int i = 0; i < 5; i++) {
                all.add(i < player.laid.size() ? (long) player.laid.get(i).sort() : -1L);
                all.add(i < player.laid.size() ? (long) player.laid.get(i).low() : -1L);
            }
            for (int kind : player.river) {
                all.add((long) kind);
            }
            all.add(player.waits());
        }
        for (int i = 0; i < 4; i++) {
            Win win = i < wins.size() ? wins.get(i) : new Win(-1, -1, -1, -1, -1, -1, -1, 0);
            for (int part : new int[] {win.seat, win.payer, win.base, win.han, win.fu, win.got,
                win.kind}) {
                all.add((long) part);
            }
            all.add(win.forms);
        }
        for (int kind : wall) {
            all.add((long) kind);
        }
        return all.stream().mapToLong(a -> a).toArray();
    }

    /** The answers of the class to the same questions, in the same order. */
    static long[] answersOf(TileHouse house) {
        List<Long> all = new ArrayList<>();
        for (int what = 0; what <= 12; what++) {
            all.add((long) house.count(what));
        }
        for (int seat = 0; seat < 4; seat++) {
            for (int what = 0; what <= 7; what++) {
                all.add((long) house.seat(seat, what));
            }
            for (int kind = 0; kind < 34; kind++) {
                all.add((long) house.hand(seat, kind));
            }
            for (int i = 0; i < 5; i++) {
                all.add((long) house.laid(seat, i, 0));
                all.add((long) house.laid(seat, i, 1));
            }
            for (int i = 0; i < house.seat(seat, 4); i++) {
                all.add((long) house.river(seat, i));
            }
            all.add(house.waits(seat));
        }
        for (int i = 0; i < 4; i++) {
            for (int what = 0; what <= 6; what++) {
                all.add((long) house.won(i, what));
            }
            all.add(house.forms(i));
        }
        for (int place = 0; place < 136 && house.count(8) > 0; place++) {
            all.add((long) house.wall(place));
        }
        return all.stream().mapToLong(a -> a).toArray();
    }
}
