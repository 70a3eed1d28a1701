/** How many tiles a hand is away from one that WAITS; only for playing with sense. */
final class Distance {
    private int best;

    static int of(int[] hand, int laid) {
        int sets = setsAndPair(hand, laid);
        return laid > 0 ? sets : Math.min(sets, Math.min(pairs(hand), thirteen(hand)));
    }

    private static int pairs(int[] hand) {
        int pairs = 0;
        for (int n : hand) {
            pairs += n >= 2 ? 1 : 0;
        }
        return 6 - pairs;
    }

    private static int thirteen(int[] hand) {
        int kinds = 0;
        boolean pair = false;
        for (int k = 0; k < 34; k++) {
            if (WorthModel.end(k) && hand[k] > 0) {
                kinds++;
                pair = pair || hand[k] >= 2;
            }
        }
        return 13 - kinds - (pair ? 1 : 0);
    }

    private static int setsAndPair(int[] hand, int laid) {
        Distance distance = new Distance();
        distance.best = 8;
        int[] rest = hand.clone();
        distance.search(rest, 0, laid, 0, 0);
        return distance.best;
    }

    private void search(int[] rest, int from, int sets, int parts, int pair) {
        int k = from;
        while (k < 34 && rest[k] == 0) {
            k++;
        }
        int useful = Math.min(parts, 4 - sets);
        best = Math.min(best, 8 - 2 * sets - useful - pair);
        if (k == 34) {
            return;
        }
        boolean suit = k < 27;
        if (sets < 4 && rest[k] >= 3) {
            rest[k] -= 3;
            search(rest, k, sets + 1, parts, pair);
            rest[k] += 3;
        }
        if (sets < 4 && suit && k % 9 < 7 && rest[k + 1] > 0 && rest[k + 2] > 0) {
            rest[k]--;
            rest[k + 1]--;
            rest[k + 2]--;
            search(rest, k, sets + 1, parts, pair);
            rest[k]++;
            rest[k + 1]++;
            rest[k + 2]++;
        }
        if (rest[k] >= 2) {
            rest[k] -= 2;
            if (pair == 0) {
                search(rest, k, sets, parts, 1);
            }
            if (sets + parts < 4) {
                search(rest, k, sets, parts + 1, pair);
            }
            rest[k] += 2;
        }
        if (sets + parts < 4 && suit) {
            for (int step = 1; step <= 2; step++) {
                if (k % 9 + step < 9 && rest[k + step] > 0) {
                    rest[k]--;
                    rest[k + step]--;
                    search(rest, k, sets, parts + 1, pair);
                    rest[k]++;
                    rest[k + step]++;
                }
            }
        }
        int kept = rest[k];
        rest[k] = 0;
        search(rest, k + 1, sets, parts, pair);
        rest[k] = kept;
    }
}
