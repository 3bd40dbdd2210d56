import java.util.Arrays;
import java.util.List;
import java.util.Random;

/** Runs of calls with texts and arguments from told seeds, compared with the answers of the model. */
public final class RandomRunsTest {
    private static final int RUNS = 1500;
    private static final int CALLS = 500;
    private static final List<String> CHANGES = List.of("setRadius", "setRadius", "solve", "sweep", "settle", "lay",
            "lay", "lay", "shift", "turn", "undo", "undo", "save", "restore", "report");

    private static int wrong = 0;
    private static long compared = 0;

    private final int seed;
    private final Random random;
    private final Texts texts;
    private final CirclePacker packer = new CirclePacker();
    private final Model model = new Model();
    private final StringBuilder story = new StringBuilder();
    private int calls = 0;
    private boolean failed = false;

    private RandomRunsTest(int seed) {
        this.seed = seed;
        random = new Random(seed);
        texts = new Texts(random);
    }

    private String call(String name, int... p) {
        String got = Calls.answer(packer, name, p);
        String due = Calls.answer(model, name, p);
        calls++;
        compared++;
        if (story.length() < 100000) {
            story.append(name).append(Arrays.toString(p)).append(" ").append(due).append("\n");
        }
        if (!got.equals(due) && !failed) {
            failed = true;
            wrong++;
            System.out.println("seed " + seed + ": " + name + Arrays.toString(p) + " answered " + got + ", due is " + due);
            if (wrong <= 1) {
                System.out.println(story);
            }
        }
        return got;
    }

    private void give(String text) {
        if (random.nextInt(10) > 0) {
            call("truncate", 0);
        }
        for (int[] p : Calls.feeds(text)) {
            call("feed", p);
        }
        if (random.nextInt(60) > 0) {
            call("truncate", Math.min(text.length(), model.buffer.length()));
        }
    }

    private void readSomeNet() {
        String text = texts.loosened(texts.net());
        give(random.nextInt(8) == 0 ? texts.spoilt(text) : text);
        call("readNet");
        call("errorCode");
        call("errorPosition");
    }

    private void runSomeScript() {
        String text = texts.loosened(texts.script());
        give(random.nextInt(8) == 0 ? texts.spoilt(text + " ") : text);
        call("runScript");
        call("errorCode");
        call("errorPosition");
    }

    private int someIndex(int bound) {
        return random.nextInt(25) == 0 ? random.nextInt(3) - 1 + (random.nextBoolean() ? bound : 0)
                : random.nextInt(Math.max(1, bound));
    }

    private int around(int middle, int reach) {
        return middle - reach + random.nextInt(2 * reach + 1);
    }

    private int someNumber() {
        switch (random.nextInt(6)) {
            case 0:
                return random.nextInt();
            case 1:
                return random.nextBoolean() ? Integer.MIN_VALUE : Integer.MAX_VALUE;
            default:
                return random.nextInt(23) - 2;
        }
    }

    private int argument(String name, int i) {
        int circles = model.state.circles.size();
        int faces = model.state.faces.size();
        if (random.nextInt(60) == 0) {
            return someNumber();
        }
        boolean second = i == 1;
        switch (name) {
            case "count":
                return someIndex(6);
            case "corner":
            case "angle":
                return second ? someIndex(3) : someIndex(faces);
            case "area":
            case "lay":
                return someIndex(faces);
            case "neighbor":
            case "border":
            case "putAt":
                return second || name.equals("putAt") ? someIndex(8) : someIndex(circles);
            case "setRadius":
                return second ? random.nextInt(15) == 0 ? around(1000000, 1) : texts.someRadius(1000000)
                        : someIndex(circles);
            case "settle":
                return random.nextInt(10) == 0 ? someIndex(21) : 1 + random.nextInt(3);
            case "lowSum":
            case "highSum":
                return second ? someIndex(1001) : someIndex(circles);
            case "isCertain":
                return i == 2 ? random.nextInt(2000000001) : second ? someIndex(1001) : someIndex(circles);
            case "greatestSlack":
                return random.nextInt(2000000001);
            case "overlaps":
                return random.nextInt(4) == 0 ? someIndex(1000001) : random.nextInt(3000);
            case "shift":
                return random.nextInt(10) == 0 ? around(random.nextBoolean() ? 1000000 : -1000000, 1)
                        : around(0, 1000000);
            case "box":
                return someIndex(4);
            case "at":
                return around(0, random.nextBoolean() ? 3000 : 300000);
            case "touch":
                return i == 2 ? someIndex(2) : someIndex(circles);
            case "reportByte":
                return someIndex(100);
            default:
                return someIndex(circles);
        }
    }

    private void someCall(String name) {
        int[] p = new int[Calls.parameters(name)];
        for (int i = 0; i < p.length; i++) {
            p[i] = argument(name, i);
        }
        call(name, p);
    }

    // A point near the edge of a circle, where a unit decides.
    private void pointAtEdge() {
        if (model.state.order.isEmpty()) {
            return;
        }
        Model.Circle c = model.state.circles.get(model.state.order.get(random.nextInt(model.state.order.size())));
        int along = random.nextInt((int) c.radius + 1);
        int aside = (int) Model.root(c.radius * c.radius - (long) along * along);
        int sign = random.nextBoolean() ? 1 : -1;
        call("at", (int) (c.x + sign * along), (int) (c.y + aside + random.nextInt(2)));
    }

    // The bound at which a circle is just certain, and the one below it.
    private void boundAtEdge() {
        int circles = model.state.circles.size();
        if (circles == 0) {
            return;
        }
        int c = random.nextInt(circles);
        int slack = random.nextInt(20);
        long off = Math.max(model.target(c) - model.lowSum(c, slack), model.highSum(c, slack) - model.target(c));
        for (long bound = off - 1; bound <= off; bound++) {
            if (bound >= 0 && bound <= 2000000000) {
                call("isCertain", c, slack, (int) bound);
                call("greatestSlack", (int) bound);
            }
        }
    }

    private void run() {
        List<String> names = Calls.names();
        names.removeAll(List.of("feed", "readNet", "runScript", "truncate"));
        names.removeAll(CHANGES);
        readSomeNet();
        while (calls < CALLS - 90 && !failed) {
            int choice = random.nextInt(200);
            if (choice == 0) {
                readSomeNet();
            } else if (choice < 5) {
                runSomeScript();
            } else if (choice < 70) {
                someCall(CHANGES.get(random.nextInt(CHANGES.size())));
            } else if (choice < 76) {
                pointAtEdge();
            } else if (choice < 78) {
                boundAtEdge();
            } else {
                someCall(names.get(random.nextInt(names.size())));
            }
        }
    }

    public static void main(String[] args) {
        for (int seed = 1; seed <= RUNS && wrong < 5; seed++) {
            new RandomRunsTest(seed).run();
        }
        System.out.println(compared + " answers compared, " + wrong + " runs are not as due");
        if (wrong != 0) {
            System.exit(1);
        }
    }
}
