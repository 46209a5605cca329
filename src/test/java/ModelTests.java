import java.lang.reflect.InvocationTargetException;
import java.lang.reflect.Method;
import java.util.Arrays;
import java.util.Random;

/** Random runs of calls (of seeds that are written here), each call answered by RumourPipes and by PlainModel. */
public final class ModelTests {
    private static final int RUNS = 400;
    private static final int LONG_RUN = 512;
    private static final int SHORT_RUN = 100;

    // A call's name, then what its arguments are: a kind, or a range like 0-9.
    private static final String[] CHANGES = {
        "setStay floor 0-9", "setHeads floor 0-99", "setStairs floor 1-9", "turnStairs floor",
        "addLift floor floor 1-4 1-9", "turnLift lift", "startRumour floor 1-20", "startRumour floor 1-3",
        "startDenial rumour floor", "passHours 1-5", "passHours 1-5", "passHours 1-60",
    };
    private static final String[] QUESTIONS = {
        "floors", "hours", "lifts", "rumours", "headsOf floor", "stayOf floor", "stairsOf floor", "isOpen floor",
        "runs lift", "serves lift floor", "pipe floor floor", "neighbours floor", "originOf rumour",
        "reachOf rumour", "stateOf rumour floor", "heardAt rumour floor", "deniedAt rumour floor",
        "pipesTo rumour floor", "believers rumour", "reached rumour", "underWay rumour", "quickest floor floor",
        "pipesBetween floor floor", "farthestFrom floor", "centre", "parts", "gainBy lift floor floor",
        "wouldHear rumour floor", "believersInTheEnd rumour", "quietIn rumour", "believersWith rumour floor",
        "bestDenial rumour", "bestStairsToShut rumour", "meanHeads",
    };

    private final int seed;
    private final Random random;
    private final RumourPipes program = new RumourPipes();
    private final PlainModel model = new PlainModel();

    private ModelTests(int seed) {
        this.seed = seed;
        this.random = new Random(seed);
    }

    public static void main(String[] args) throws ReflectiveOperationException {
        for (int seed = 0; seed < RUNS; seed++) {
            new ModelTests(seed).run();
        }
        Check.end();
    }

    private void run() throws ReflectiveOperationException {
        int calls = seed % 10 == 0 ? LONG_RUN : SHORT_RUN;
        both("build 2-12");
        for (int i = 2; i < calls; i++) {
            int dice = random.nextInt(100);
            if (dice == 0) {
                both("build 2-12");
            } else if (dice == 1) {
                both("digest");
            } else {
                String[] of = dice < 40 ? CHANGES : QUESTIONS;
                both(of[random.nextInt(of.length)]);
            }
        }
        both("digest");
    }

    private void both(String call) throws ReflectiveOperationException {
        String[] words = call.split(" ");
        Integer[] values = new Integer[words.length - 1];
        for (int i = 0; i < values.length; i++) {
            values[i] = value(words[i + 1]);
        }
        String due = answer(model, words[0], values);
        String got = answer(program, words[0], values);
        String shown = "seed " + seed + ": " + words[0] + Arrays.toString(values);
        Check.is(shown + " answered " + got + ", due is " + due + "; that they are the same", got.equals(due));
    }

    private int value(String kind) {
        return switch (kind) {
            case "floor" -> numberBelow(model.floors());
            case "lift" -> numberBelow(model.lifts());
            case "rumour" -> numberBelow(model.rumours());
            default -> {
                String[] ends = kind.split("-");
                int least = Integer.parseInt(ends[0]);
                yield mostlyWithin(least, Integer.parseInt(ends[1]));
            }
        };
    }

    private int numberBelow(int count) {
        return mostlyWithin(0, count - 1);
    }

    private int mostlyWithin(int least, int greatest) {
        int dice = random.nextInt(40);
        if (dice == 0) {
            return least - 1;
        }
        return dice == 1 || greatest < least ? greatest + 1 : least + random.nextInt(greatest - least + 1);
    }

    private static String answer(Object object, String name, Integer[] values) throws ReflectiveOperationException {
        Class<?>[] kinds = new Class<?>[values.length];
        Arrays.fill(kinds, int.class);
        Method method = object.getClass().getDeclaredMethod(name, kinds);
        try {
            return String.valueOf(method.invoke(object, (Object[]) values));
        } catch (InvocationTargetException e) {
            return e.getCause().getClass().getName();
        }
    }
}
