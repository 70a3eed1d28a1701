import java.util.Arrays;
import java.util.Random;

/** Promises 2 to 21 in many games that bots play, held against GameModel after each call. */
public final class GameTest {
    private static final Check CHECK = new Check("GameTest");
    private static final int GAMES = 400;
    private static final int CALLS = 512;
    private static long formsSeen;
    private static int robbed;
    private static int together;
    private static int handsEnded;
    private static int gamesEnded;
    private static int givenUp;
    private static int unwon;

    public static void main(String[] args) {
        int games = args.length > 0 ? Integer.parseInt(args[0]) : GAMES;
        long seed = args.length > 1 ? Long.parseLong(args[1]) : 4;
        for (int i = 0; i < games; i++) {
            play(new Random(seed * 1_000_003L + i));
        }
        System.out.println("hands " + handsEnded + ", FORMS " + Long.toHexString(formsSeen) + ", robbed " + robbed
            + ", several winners " + together + ", games ended " + gamesEnded + ", given up "
            + givenUp + ", without a winner " + unwon);
        CHECK.end();
    }

    private static void play(Random random) {
        TileHouse house = new TileHouse();
        GameModel model = new GameModel();
        Bot bot = new Bot(random);
        StringBuilder log = new StringBuilder();
        for (int i = 0; i < CALLS; i++) {
            if (house.count(9) == 1 && random.nextInt(8) == 0) {
                break;
            }
            Bot.Call call = bot.next(house);
            int hands = house.count(10);
            boolean got = call.on(house);
            boolean want = call.on(model);
            log.append(call).append(want ? " " : "- ");
            long[] answers = GameModel.answersOf(house);
            long[] due = model.answers();
            boolean same = got == want && Arrays.equals(answers, due);
            CHECK.yes(same ? "" : log + "answered " + got + ", then " + difference(answers, due),
                same);
            if (!same) {
                return;
            }
            if (house.count(10) > hands) {
                note(house, call);
            }
        }
        gamesEnded += house.count(9);
        handsEnded += house.count(10);
    }

    private static String difference(long[] got, long[] due) {
        int at = Arrays.mismatch(got, due);
        if (at < 0 || at >= got.length || at >= due.length) {
            return "answers differ at " + at;
        }
        return "answer " + at + " is " + got[at] + ", due is " + due[at];
    }

    private static void note(TileHouse house, Bot.Call call) {
        for (int i = 0; i < house.count(11); i++) {
            formsSeen |= house.forms(i);
            robbed += (house.forms(i) >> 7 & 1) == 1 ? 1 : 0;
        }
        together += house.count(11) > 1 ? 1 : 0;
        givenUp += call.name().equals("nine") ? 1 : 0;
        unwon += call.name().equals("pass") && house.count(11) == 0 ? 1 : 0;
    }
}
