import java.util.Arrays;

/**
 * A house that is played by a text of calls, each of which must be accepted unless a ! stands
 * before it; GameModel goes along, and all answers of the two are the same after each call.
 * dealN deal(N); dK, bK discard(K, without or with a BET); p pass(); rS.L run(S, L); tS three(S);
 * fS four(S); hK hide(K); aK add(K); w win(); cS claim(S); n nine(); xN N times the drawn tile is
 * discarded and let go.
 */
final class Script {
    final TileHouse house = new TileHouse();
    private final GameModel model = new GameModel();
    private final Check check;
    private final String name;

    Script(Check check, String name) {
        this.check = check;
        this.name = name;
    }

    Script play(String calls) {
        for (String word : calls.trim().split("\\s+")) {
            if (word.startsWith("x")) {
                letGo(Integer.parseInt(word.substring(1)));
                continue;
            }
            boolean refused = word.startsWith("!");
            Bot.Call call = callOf(refused ? word.substring(1) : word);
            long[] before = GameModel.answersOf(house);
            boolean got = call.on(house);
            check.due(name + ": " + word, got, !refused);
            check.due(name + ": " + word + " in the model", call.on(model), !refused);
            long[] after = GameModel.answersOf(house);
            check.yes(name + ": " + word + ": the model's answers",
                Arrays.equals(after, model.answers()));
            if (refused) {
                check.yes(name + ": " + word + " changes nothing", Arrays.equals(before, after));
            }
        }
        return this;
    }

    private void letGo(int tiles) {
        for (int i = 0; i < tiles; i++) {
            play("d" + house.count(12) + " p");
        }
    }

    private static Bot.Call callOf(String word) {
        if (word.startsWith("deal")) {
            return new Bot.Call("deal", Long.parseLong(word.substring(4)), 0);
        }
        String rest = word.substring(1);
        String[] parts = rest.split("\\.");
        long a = rest.isEmpty() ? 0 : Long.parseLong(parts[0]);
        long b = parts.length > 1 ? Long.parseLong(parts[1]) : 0;
        switch (word.charAt(0)) {
            case 'd': return new Bot.Call("discard", a, 0);
            case 'b': return new Bot.Call("discard", a, 1);
            case 'p': return new Bot.Call("pass", 0, 0);
            case 'r': return new Bot.Call("run", a, b);
            case 't': return new Bot.Call("three", a, 0);
            case 'f': return new Bot.Call("four", a, 0);
            case 'h': return new Bot.Call("hide", a, 0);
            case 'a': return new Bot.Call("add", a, 0);
            case 'w': return new Bot.Call("win", 0, 0);
            case 'c': return new Bot.Call("claim", a, 0);
            case 'n': return new Bot.Call("nine", 0, 0);
            default: throw new IllegalArgumentException(word);
        }
    }

    Script count(int what, int want) {
        check.due(name + ": count(" + what + ")", house.count(what), want);
        return this;
    }

    Script seat(int seat, int what, int want) {
        check.due(name + ": seat(" + seat + ", " + what + ")", house.seat(seat, what), want);
        return this;
    }

    Script points(int... want) {
        for (int seat = 0; seat < 4; seat++) {
            seat(seat, 0, want[seat]);
        }
        return this;
    }

    /** SEAT, who paid, BASE, HAN, FU, POINTS it got, the WINNER's KIND. */
    Script won(int i, int... want) {
        for (int what = 0; what < want.length; what++) {
            check.due(name + ": won(" + i + ", " + what + ")", house.won(i, what), want[what]);
        }
        check.due(name + ": won(" + i + ", 7)", house.won(i, 7), -1);
        check.due(name + ": won(" + i + ", -1)", house.won(i, -1), -1);
        return this;
    }

    Script forms(int i, int... want) {
        check.due(name + ": forms(" + i + ")", house.forms(i), bits(want));
        return this;
    }

    Script waits(int seat, int... want) {
        check.due(name + ": waits(" + seat + ")", house.waits(seat), bits(want));
        return this;
    }

    Script laid(int seat, int i, int sort, int kind) {
        check.due(name + ": laid(" + seat + ", " + i + ", 0)", house.laid(seat, i, 0), sort);
        check.due(name + ": laid(" + seat + ", " + i + ", 1)", house.laid(seat, i, 1), kind);
        return this;
    }

    Script hand(int seat, int kind, int want) {
        check.due(name + ": hand(" + seat + ", " + kind + ")", house.hand(seat, kind), want);
        return this;
    }

    /** What a SEAT has in its hand, each tile told. */
    Script has(int seat, int... kinds) {
        int[] want = new int[34];
        for (int kind : kinds) {
            want[kind]++;
        }
        for (int kind = 0; kind < 34; kind++) {
            hand(seat, kind, want[kind]);
        }
        return this;
    }

    static long bits(int... numbers) {
        long bits = 0;
        for (int number : numbers) {
            bits |= 1L << number;
        }
        return bits;
    }
}
