import java.util.ArrayList;
import java.util.Collections;
import java.util.List;
import java.util.Set;
import java.util.TreeSet;

/** Terms 1 and 2 of the document once more, told slowly with lists, to hold the class against. */
final class WorthModel {
    /** A SET of a WAY; sort as in laid(), own: made of tiles that are not laid down. */
    record Group(int sort, int low, boolean own) {
        boolean isRun() {
            return sort == 0;
        }

        boolean isFour() {
            return sort == 2 || sort == 3;
        }

        List<Integer> kinds() {
            return isRun() ? List.of(low, low + 1, low + 2) : List.of(low);
        }

        int tiles() {
            return isFour() ? 4 : 3;
        }
    }

    /** A WAY: four SETS and a PAIR, or (groups empty) the seven PAIRS or the thirteen ENDS. */
    record Way(List<Group> groups, int pair, boolean thirteen) {
        boolean isFirstSort() {
            return !groups.isEmpty();
        }
    }

    int base;
    int han;
    int fu;
    long forms;
    int ways;

    private List<Integer> free;
    private List<Group> laid;
    private int winner;
    private boolean drawn;
    private long told;
    private int seatWind;
    private int roundWind;
    private int dear;

    static boolean honour(int kind) {
        return kind >= 27;
    }

    static boolean terminal(int kind) {
        return kind < 27 && (kind % 9 == 0 || kind % 9 == 8);
    }

    static boolean end(int kind) {
        return honour(kind) || terminal(kind);
    }

    static int countOf(List<Integer> tiles, int kind) {
        return Collections.frequency(tiles, kind);
    }

    static List<Integer> without(List<Integer> tiles, int... kinds) {
        List<Integer> rest = new ArrayList<>(tiles);
        for (int kind : kinds) {
            if (!rest.remove(Integer.valueOf(kind))) {
                return null;
            }
        }
        return rest;
    }

    static List<Way> waysOf(List<Integer> free, List<Group> laid) {
        List<Way> found = new ArrayList<>();
        if (free.size() + 3 * laid.size() != 14) {
            return found;
        }
        Set<Integer> different = new TreeSet<>(free);
        if (laid.isEmpty() && different.size() == 7
                && different.stream().allMatch(k -> countOf(free, k) == 2)) {
            found.add(new Way(List.of(), -1, false));
        }
        if (laid.isEmpty() && different.size() == 13 && different.stream().allMatch(k -> end(k))) {
            found.add(new Way(List.of(), -1, true));
        }
        Set<String> seen = new TreeSet<>();
        for (int pair : different) {
            List<Integer> rest = without(free, pair, pair);
            if (rest != null) {
                split(rest, new ArrayList<>(), laid, pair, seen, found);
            }
        }
        return found;
    }

    private static void split(List<Integer> rest, List<Group> made, List<Group> laid, int pair,
            Set<String> seen, List<Way> found) {
        if (rest.isEmpty()) {
            List<Group> sorted = new ArrayList<>(made);
            sorted.sort((a, b) -> a.toString().compareTo(b.toString()));
            if (seen.add(pair + " " + sorted)) {
                List<Group> all = new ArrayList<>(laid);
                all.addAll(sorted);
                found.add(new Way(all, pair, false));
            }
            return;
        }
        int kind = Collections.min(rest);
        List<Group> options = new ArrayList<>(List.of(new Group(1, kind, true)));
        if (kind < 27 && kind % 9 < 7) {
            options.add(new Group(0, kind, true));
        }
        for (Group option : options) {
            List<Integer> less = option.isRun()
                ? without(rest, kind, kind + 1, kind + 2) : without(rest, kind, kind, kind);
            if (less != null) {
                made.add(option);
                split(less, made, laid, pair, seen, found);
                made.remove(made.size() - 1);
            }
        }
    }

    static long waits(List<Integer> free, List<Group> laid) {
        long bits = 0;
        if (free.size() + 3 * laid.size() != 13) {
            return 0;
        }
        List<Integer> all = allTiles(free, laid);
        for (int kind = 0; kind < 34; kind++) {
            List<Integer> more = new ArrayList<>(free);
            more.add(kind);
            if (countOf(all, kind) < 4 && !waysOf(more, laid).isEmpty()) {
                bits |= 1L << kind;
            }
        }
        return bits;
    }

    static List<Integer> allTiles(List<Integer> free, List<Group> laid) {
        List<Integer> all = new ArrayList<>(free);
        for (Group group : laid) {
            for (int kind : group.kinds()) {
                all.addAll(Collections.nCopies(group.isRun() ? 1 : group.tiles(), kind));
            }
        }
        return all;
    }

    static boolean isOpen(List<Group> laid) {
        return laid.stream().anyMatch(g -> g.sort() != 3);
    }

    int judge(List<Integer> free, List<Group> laid, int winner, boolean drawn, long told,
            int winds, int dear) {
        this.free = free;
        this.laid = laid;
        this.winner = winner;
        this.drawn = drawn;
        this.told = told;
        this.seatWind = 27 + (winds & 3);
        this.roundWind = 27 + (winds >> 2 & 3);
        this.dear = dear;
        base = 0;
        han = 0;
        fu = 0;
        forms = 0;
        ways = 0;
        if (!free.contains(winner)) {
            return 0;
        }
        for (Way way : waysOf(free, laid)) {
            if (!way.isFirstSort()) {
                consider(way, null, false);
                continue;
            }
            Set<String> tried = new TreeSet<>();
            for (Group group : way.groups()) {
                if (group.own() && group.kinds().contains(winner) && tried.add(group.toString())) {
                    consider(way, group, false);
                }
            }
            if (way.pair() == winner) {
                consider(way, null, true);
            }
        }
        return base;
    }

    private void consider(Way way, Group done, boolean donePair) {
        ways++;
        boolean open = isOpen(laid);
        Set<Integer> found = formsOf(way, done, open);
        int newFu = fuOf(way, done, donePair, open);
        int newHan = 0;
        int newBase = 0;
        long newForms = 0;
        long greats = found.stream().filter(f -> f >= 32).count();
        if (greats > 0) {
            found.removeIf(f -> f < 32);
            newHan = 13 * (int) greats;
            newBase = 8000 * (int) greats;
        } else if (!found.isEmpty()) {
            for (int form : found) {
                newHan += hanOf(form, open);
            }
            newHan += dear;
            newBase = baseOf(newFu, newHan);
        }
        for (int form : found) {
            newForms |= 1L << form;
        }
        long[] mine = {newBase, newHan, newFu, newForms};
        long[] theirs = {base, han, fu, forms};
        int cmp = 0;
        for (int i = 0; i < 4 && cmp == 0; i++) {
            cmp = Long.compare(mine[i], theirs[i]);
        }
        if (cmp > 0) {
            base = newBase;
            han = newHan;
            fu = newFu;
            forms = newForms;
        }
    }

    static int baseOf(int fu, int han) {
        if (han >= 13) {
            return 8000;
        }
        int[] fixed = {0, 0, 0, 0, 0, 2000, 3000, 3000, 4000, 4000, 4000, 6000, 6000};
        if (han >= 5) {
            return fixed[han];
        }
        int base = fu * 4;
        for (int i = 0; i < han; i++) {
            base *= 2;
        }
        return Math.min(base, 2000);
    }

    /** HAN of a FORM, 0: it does not count. */
    static int hanOf(int form, boolean open) {
        switch (form) {
            case 0: case 2: case 3: case 9: case 10: return open ? 0 : 1;
            case 1: return open ? 0 : 2;
            case 16: case 19: case 20: case 21: case 22: case 24: case 25: return 2;
            case 17: case 18: case 23: return open ? 1 : 2;
            case 26: case 27: return open ? 2 : 3;
            case 28: return open ? 0 : 3;
            case 29: return open ? 5 : 6;
            default: return form >= 32 ? 13 : 1;
        }
    }

    private Set<Integer> formsOf(Way way, Group done, boolean open) {
        Set<Integer> found = new TreeSet<>();
        for (int form : new int[] {0, 1, 2, 4, 5, 6, 7, 42, 43}) {
            if ((told >> form & 1) == 1) {
                found.add(form);
            }
        }
        if (found.contains(1)) {
            found.remove(0);
        }
        if (drawn) {
            found.add(3);
        }
        formsOfTiles(found);
        if (way.isFirstSort()) {
            formsOfRuns(way, found);
            formsOfThrees(way, done, found);
            formsOfEnds(way, found);
            if (isFlat(way, done)) {
                found.add(9);
            }
        } else {
            found.add(way.thirteen() ? 32 : 16);
        }
        found.removeIf(f -> hanOf(f, open) == 0);
        return found;
    }

    private void formsOfTiles(Set<Integer> found) {
        List<Integer> all = allTiles(free, laid);
        Set<Integer> suits = new TreeSet<>();
        boolean honours = false;
        for (int kind : all) {
            if (honour(kind)) {
                honours = true;
            } else {
                suits.add(kind / 9);
            }
        }
        addIf(found, 8, all.stream().noneMatch(k -> end(k)));
        addIf(found, 24, all.stream().allMatch(k -> end(k)));
        addIf(found, 26, suits.size() == 1 && honours);
        addIf(found, 29, suits.size() == 1 && !honours);
        addIf(found, 37, all.stream().allMatch(k -> honour(k)));
        addIf(found, 38, all.stream().allMatch(k -> terminal(k)));
        addIf(found, 39, List.of(19, 20, 21, 23, 25, 32).containsAll(all));
        if (laid.isEmpty() && suits.size() == 1 && !honours) {
            int first = suits.iterator().next() * 9;
            boolean gates = countOf(all, first) >= 3 && countOf(all, first + 8) >= 3;
            for (int kind = first; kind < first + 9; kind++) {
                gates = gates && countOf(all, kind) >= 1;
            }
            addIf(found, 40, gates);
        }
    }

    private static void addIf(Set<Integer> found, int form, boolean holds) {
        if (holds) {
            found.add(form);
        }
    }

    private static void formsOfRuns(Way way, Set<Integer> found) {
        List<Integer> lows = new ArrayList<>();
        for (Group group : way.groups()) {
            if (group.isRun()) {
                lows.add(group.low());
            }
        }
        int likes = 0;
        for (int low : new TreeSet<>(lows)) {
            likes += countOf(lows, low) / 2;
        }
        addIf(found, 10, likes == 1);
        addIf(found, 28, likes == 2);
        for (int n = 0; n < 7; n++) {
            addIf(found, 17, lows.containsAll(List.of(n, n + 9, n + 18)));
        }
        for (int s = 0; s < 27; s += 9) {
            addIf(found, 18, lows.containsAll(List.of(s, s + 3, s + 6)));
        }
        addIf(found, 19, lows.isEmpty());
    }

    private void formsOfThrees(Way way, Group done, Set<Integer> found) {
        List<Integer> kinds = new ArrayList<>();
        int fours = 0;
        int hidden = 0;
        for (Group group : way.groups()) {
            if (!group.isRun()) {
                kinds.add(group.low());
                fours += group.isFour() ? 1 : 0;
                hidden += isHidden(group, done) ? 1 : 0;
            }
        }
        for (int d = 0; d < 3; d++) {
            addIf(found, 11 + d, kinds.contains(31 + d));
        }
        addIf(found, 14, kinds.contains(seatWind));
        addIf(found, 15, kinds.contains(roundWind));
        addIf(found, 20, hidden == 3);
        addIf(found, 33, hidden == 4);
        addIf(found, 21, fours == 3);
        addIf(found, 41, fours == 4);
        for (int n = 0; n < 9; n++) {
            addIf(found, 22, kinds.containsAll(List.of(n, n + 9, n + 18)));
        }
        long dragons = kinds.stream().filter(k -> k >= 31).count();
        long winds = kinds.stream().filter(k -> k >= 27 && k <= 30).count();
        addIf(found, 25, dragons == 2 && way.pair() >= 31);
        addIf(found, 34, dragons == 3);
        addIf(found, 35, winds == 3 && way.pair() >= 27 && way.pair() <= 30);
        addIf(found, 36, winds == 4);
    }

    private boolean isHidden(Group group, Group done) {
        if (!group.own()) {
            return group.sort() == 3;
        }
        return drawn || group != done;
    }

    private static void formsOfEnds(Way way, Set<Integer> found) {
        boolean runs = way.groups().stream().anyMatch(g -> g.isRun());
        boolean ends = end(way.pair())
            && way.groups().stream().allMatch(g -> g.kinds().stream().anyMatch(k -> end(k)));
        boolean terminals = terminal(way.pair())
            && way.groups().stream().allMatch(g -> g.kinds().stream().anyMatch(k -> terminal(k)));
        boolean honours = honour(way.pair()) || way.groups().stream().anyMatch(g -> honour(g.low()));
        addIf(found, 23, ends && runs && honours);
        addIf(found, 27, terminals && runs && !honours);
    }

    private boolean isFlat(Way way, Group done) {
        if (isOpen(laid) || done == null || !done.isRun()
                || !way.groups().stream().allMatch(g -> g.isRun())) {
            return false;
        }
        int pair = way.pair();
        if (pair >= 31 || pair == seatWind || pair == roundWind) {
            return false;
        }
        boolean lowest = winner == done.low() && done.low() % 9 != 6;
        boolean highest = winner == done.low() + 2 && done.low() % 9 != 0;
        return lowest || highest;
    }

    private int fuOf(Way way, Group done, boolean donePair, boolean open) {
        if (!way.isFirstSort()) {
            return way.thirteen() ? 30 : 25;
        }
        int sum = 20;
        sum += !drawn && !open ? 10 : 0;
        for (Group group : way.groups()) {
            if (!group.isRun()) {
                int each = group.isFour() ? 8 : 2;
                each *= isHidden(group, done) ? 2 : 1;
                each *= end(group.low()) ? 2 : 1;
                sum += each;
            }
        }
        int pair = way.pair();
        sum += pair >= 31 ? 2 : 0;
        sum += pair == seatWind ? 2 : 0;
        sum += pair == roundWind ? 2 : 0;
        boolean hard = donePair;
        if (done != null && done.isRun()) {
            int number = winner % 9 + 1;
            hard = winner == done.low() + 1
                || number == 3 && done.low() == winner - 2
                || number == 7 && done.low() == winner;
        }
        sum += hard ? 2 : 0;
        sum += drawn && !isFlat(way, done) ? 2 : 0;
        while (sum % 10 != 0) {
            sum++;
        }
        return open && sum < 30 ? 30 : sum;
    }
}
