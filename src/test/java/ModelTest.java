import java.lang.reflect.Method;
import java.util.ArrayList;
import java.util.Arrays;
import java.util.Comparator;
import java.util.List;
import java.util.Random;

/** Random runs of calls on the class and on the model of it, which must answer alike. */
public final class ModelTest {
    private static final int RUNS = 1000;
    private static final int CALLS = 512;

    private final Random dice;
    private final Writer writer;
    private final LiquoriceRoads x = new LiquoriceRoads();
    private final Model model = new Model();
    private final List<String> log = new ArrayList<>();
    private final Method[] face = face();
    private final boolean tame;
    private final boolean late;
    private int calls = 0;

    private ModelTest(long seed) {
        dice = new Random(seed);
        writer = new Writer(dice);
        tame = dice.nextInt(4) > 0;
        late = dice.nextInt(50) == 0;
    }

    private static Method[] face() {
        Method[] all = LiquoriceRoads.class.getDeclaredMethods();
        Method[] open = Arrays.stream(all).filter(m -> java.lang.reflect.Modifier.isPublic(m.getModifiers()))
            .sorted(Comparator.comparing(Method::getName)).toArray(Method[]::new);
        return open;
    }

    public static void main(String[] args) throws Exception {
        int runs = args.length > 0 ? Integer.parseInt(args[0]) : RUNS;
        long first = args.length > 1 ? Long.parseLong(args[1]) : 1;
        for (long seed = first; seed < first + runs; seed++) {
            ModelTest run = new ModelTest(seed);
            if (!run.goesWell()) {
                System.out.println("seed " + seed + ", the last calls:");
                for (String line : run.log.subList(Math.max(0, run.log.size() - 60), run.log.size())) {
                    System.out.println("  " + line);
                }
                System.exit(1);
            }
        }
        System.out.println(runs + " runs are answered as by the model");
    }

    private boolean goesWell() throws Exception {
        boolean well = true;
        if (tame) {
            for (int i = dice.nextInt(17); i > 0 && well; i--) {
                well = call("road", town(), town(), 1 + dice.nextInt(9), 1 + dice.nextInt(dice.nextBoolean() ? 12 : 99));
            }
            for (int i = dice.nextInt(7); i > 0 && well; i--) {
                well = call("goer", town(), 1 + dice.nextInt(9));
            }
        }
        well = well && (!late || ages());
        while (well && calls < CALLS) {
            well = nextCalls();
        }
        return well;
    }

    /** Random calls alone hardly come to the last DAYS, to GOERS that went so often, or to so much of a COIL. */
    private boolean ages() throws Exception {
        boolean alike = writes("sucks " + dice.nextInt(2) + ";swells 9;") && call("by", 0);
        for (int i = 0; i < 9 && alike; i++) {
            alike = call("coil", 99);
        }
        alike = alike && call("coil", 80 + dice.nextInt(9));
        for (int i = 0; i < 166 && alike; i++) {
            alike = call("day", 60);
        }
        return alike && call("day", 20 + dice.nextInt(20));
    }

    private boolean nextCalls() throws Exception {
        int kind = dice.nextInt(100);
        if (kind < 3) {
            return writes(writer.text(x.about(0), x.about(1)));
        }
        if (kind < 5) {
            return writes(writer.spoilt(x.about(0), x.about(1)));
        }
        if (kind < 6) {
            return call("road", town(), town(), 1 + dice.nextInt(9), 1 + dice.nextInt(99));
        }
        if (kind < 7) {
            return call("goer", town(), 1 + dice.nextInt(9));
        }
        if (kind < 30) {
            return goes();
        }
        if (kind < 34) {
            return call("day", 1 + dice.nextInt(dice.nextInt(4) == 0 ? 60 : 3)) && looksAlike();
        }
        if (kind < 36) {
            return call("years", dice.nextInt(10000), 1 + dice.nextInt(40)) && looksAlike();
        }
        if (kind < 40) {
            return call("undo") && looksAlike();
        }
        if (kind < 41) {
            return call("by", dice.nextInt(5) - 1);
        }
        if (kind < 42) {
            return call("played", dice.nextInt(5) - 1) && looksAlike();
        }
        if (kind < 43) {
            return says();
        }
        if (kind < 44 && dice.nextInt(3) == 0) {
            return call(dice.nextBoolean() ? "image" : "back") && looksAlike();
        }
        return callAny();
    }

    private boolean looksAlike() throws Exception {
        if (dice.nextInt(8) > 0) {
            return true;
        }
        boolean alike = true;
        for (int what = 0; what < 4 && alike; what++) {
            alike = call("is", what) && call("about", what + 2);
        }
        for (int road = 0; road < x.about(0) && alike; road++) {
            alike = call("of", road, 3);
        }
        for (int goer = 0; goer < x.about(1) && alike; goer++) {
            alike = call("ofGoer", goer, 0) && call("ofGoer", goer, 2) && call("ofGoer", goer, 3);
        }
        return alike && call("ledger", -1) && call("book", 0, 0);
    }

    private boolean writes(String text) throws Exception {
        boolean alike = call("end", 0);
        int[] words = Tapes.words(text);
        for (int i = 0; i < words.length && alike; i += 5) {
            alike = call("feed", words[i], words[i + 1], words[i + 2], words[i + 3], words[i + 4]);
        }
        log.add("# " + text);
        return alike && call("end", text.length()) && call("text") && call("fault", 0) && call("fault", 1)
            && (dice.nextBoolean() || call("by", x.about(2) - 1)) && (dice.nextInt(3) > 0 || call("played", x.about(2) - 1));
    }

    private boolean callAny() throws Exception {
        Method m = face[dice.nextInt(face.length)];
        if (dice.nextInt(4) > 0 && List.of("image", "back", "text", "feed", "end").contains(m.getName())) {
            return true;
        }
        Object[] args = new Object[m.getParameterCount()];
        int[] bounds = dice.nextInt(10) == 0 ? new int[0] : bounds(m.getName());
        for (int i = 0; i < args.length; i++) {
            if (m.getParameterTypes()[i] == boolean.class) {
                args[i] = dice.nextBoolean();
            } else if (i < bounds.length) {
                args[i] = dice.nextInt(Math.max(1, bounds[i] + 1)) - (dice.nextInt(8) == 0 ? 1 : 0);
            } else {
                args[i] = number();
            }
        }
        return call(m.getName(), args);
    }

    /** For each number that is asked for the lowest that is too high. */
    private int[] bounds(String name) {
        int roads = x.about(0);
        int goers = x.about(1);
        switch (name) {
            case "of": return new int[] {roads, 6};
            case "ofGoer": return new int[] {goers, 4};
            case "sucks":
            case "times": return new int[] {goers, roads};
            case "book": return new int[] {x.book(-1, 0), 4};
            case "foretold": return dice.nextBoolean() ? new int[] {60, 0, roads} : new int[] {60, 3, goers};
            case "miles": return new int[] {7, 7, 12};
            case "way": return new int[] {7, 7, 3, 4};
            case "widest":
            case "flow":
            case "cut": return new int[] {7, 7};
            case "carter":
            case "ring": return new int[] {7};
            case "crowd": return new int[] {roads, goers};
            case "who": return new int[] {roads};
            case "likely": return new int[] {7, 3, 7};
            case "said": return new int[] {goers, roads, 7};
            case "ledger": return new int[] {goers};
            default: return new int[0];
        }
    }

    private boolean goes() throws Exception {
        int goer = dice.nextInt(7);
        int open = x.ofGoer(goer, 3);
        List<Integer> roads = new ArrayList<>();
        for (int road = 0; road < 16; road++) {
            if (dice.nextInt(8) == 0 || open > 0 && (open >> road & 1) == 1) {
                roads.add(road);
            }
        }
        return call("go", goer, roads.isEmpty() ? 0 : roads.get(dice.nextInt(roads.size()))) && looksAlike();
    }

    private boolean says() throws Exception {
        int goer = dice.nextInt(6);
        int road = dice.nextInt(16);
        return call("said", goer, road, Math.max(0, x.sucks(goer, road))) && call("whose");
    }

    private int town() {
        return dice.nextInt(dice.nextInt(3) == 0 ? 8 : 5);
    }

    private int number() {
        int kind = dice.nextInt(40);
        if (kind == 0) {
            return dice.nextInt();
        }
        if (kind == 1) {
            return new int[] {Integer.MIN_VALUE, Integer.MAX_VALUE, 300, 10000, 9999, 61, 60, 41, 40}[dice.nextInt(9)];
        }
        if (kind < 8) {
            return dice.nextInt(103) - 2;
        }
        return kind < 16 ? dice.nextInt(19) - 2 : dice.nextInt(8) - 1;
    }

    private boolean call(String name, Object... args) throws Exception {
        Method one = null;
        for (Method m : face) {
            one = m.getName().equals(name) ? m : one;
        }
        Method other = Model.class.getMethod(name, one.getParameterTypes());
        Object got = one.invoke(x, args);
        Object want = other.invoke(model, args);
        calls++;
        log.add(name + Arrays.toString(args) + " " + got + (got.equals(want) ? "" : ", by the model " + want));
        return got.equals(want);
    }
}
