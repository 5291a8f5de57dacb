import java.lang.reflect.Method;
import java.util.ArrayList;
import java.util.Arrays;
import java.util.Comparator;
import java.util.List;
import java.util.Random;

/** Runs of at most 512 calls, drawn by fixed seeds, on the class and on the model: all promises, in any order. */
final class ModelTest {
    private static final int RUNS = 2000, CALLS = 512, TAKING_APART = 90, TYPING = 170;
    private static final String[] TELLING = {
        "belief", "change", "way", "way", "way", "bird", "bird", "tell", "tell", "tell", "evening", "evening", "undo",
        "crow", "crow", "image", "from"};
    private static final Check check = new Check();

    private final RavenSupper x = new RavenSupper();
    private final Model model = new Model();
    private final Random random;
    private int calls;

    private ModelTest(int seed) {
        random = new Random(seed);
    }

    public static void main(String[] args) throws Exception {
        for (int seed = 1; seed <= RUNS; seed++) {
            new ModelTest(seed).run();
        }
        check.end();
    }

    private void run() throws Exception {
        List<Method> all = new ArrayList<>(List.of(RavenSupper.class.getDeclaredMethods()));
        all.removeIf(m -> !java.lang.reflect.Modifier.isPublic(m.getModifiers()));
        all.sort(Comparator.comparing(Method::getName));
        if (random.nextInt(3) > 0) {
            call("world", 2 + random.nextInt(5));
        }
        while (calls < CALLS - TAKING_APART) {
            int way = random.nextInt(60);
            if (way == 0 && calls < CALLS - TAKING_APART - TYPING) {
                typeText();
            } else if (way < 30) {
                String name = TELLING[random.nextInt(TELLING.length)];
                for (Method m : all) {
                    if (m.getName().equals(name)) {
                        call(m, likely(m));
                    }
                }
            } else {
                Method m = all.get(random.nextInt(all.size()));
                call(m, likely(m));
            }
            if (random.nextInt(3) == 0) {
                call("digest");
            }
        }
        takeApart();
        check.due("no more than 512 calls", calls <= CALLS ? 1 : 0, 1);
    }

    /** What neither answers nor digests showed: evenings that may be undone, images, the text. */
    private void takeApart() throws Exception {
        undoAll();
        for (int i = 0; i < 2; i++) {
            call("from", i);
            undoAll();
        }
        call("read");
        call("digest");
    }

    private void undoAll() throws Exception {
        for (int land = 1; land < model.count(0); land++) {
            call("of", land, 4);
        }
        for (int undone = 0; undone <= 8; undone++) {
            call("digest");
            call("undo");
        }
        call("digest");
    }

    private void typeText() throws Exception {
        if (random.nextInt(4) > 0) {
            call("clear");
        }
        StringBuilder text = new StringBuilder("world ").append(random.nextInt(30) == 0 ? 7 : 2 + random.nextInt(5)).append(";");
        String[] words = {"belief", "change", "way", "way", "bird"};
        int items = random.nextInt(9);
        for (int i = 0; i < items; i++) {
            String word = words[random.nextInt(words.length)];
            text.append(word);
            for (int j = word.equals("belief") ? 1 : 0; j < 3; j++) {
                text.append(" ").append(random.nextInt(random.nextInt(9) == 0 ? 99 : 3));
            }
            text.append(";");
        }
        for (int slips = random.nextInt(3) == 0 ? 1 + random.nextInt(2) : 0; slips > 0; slips--) {
            int at = random.nextInt(text.length());
            switch (random.nextInt(3)) {
                case 0: text.deleteCharAt(at); break;
                case 1: text.insert(at, " 7;aw0#Z".charAt(random.nextInt(8))); break;
                default: text.setCharAt(at, (char) random.nextInt(128));
            }
        }
        for (int i = 0; i < text.length(); i++) {
            call("type", (int) text.charAt(i));
        }
        call("read");
    }

    private Object[] likely(Method m) {
        Class<?>[] types = m.getParameterTypes();
        Object[] args = new Object[types.length];
        int[] most = highest(m.getName());
        boolean wrong = random.nextInt(8) == 0;
        for (int i = 0; i < args.length; i++) {
            if (types[i] == boolean.class) {
                args[i] = random.nextBoolean();
            } else if (wrong && random.nextBoolean()) {
                int[] odd = {-1, -2, most[i] + 1, most[i] + 2, Integer.MAX_VALUE, Integer.MIN_VALUE, 1 << 30, 64, 255};
                args[i] = odd[random.nextInt(odd.length)];
            } else if (i == args.length - 1 && mayBeNone(m.getName()) && random.nextBoolean()) {
                args[i] = -1;
            } else {
                args[i] = random.nextInt(most[i] + 1);
            }
        }
        return args;
    }

    private static boolean mayBeNone(String name) {
        return name.equals("plan") || name.equals("leftOut");
    }

    /** The highest number that each argument may be; those of lands go by how many there are. */
    private int[] highest(String name) {
        int land = model.count(0) - 1;
        int bits = (1 << model.count(0)) - 1;
        switch (name) {
            case "world": return new int[] {6};
            case "belief": return new int[] {land, 16};
            case "change": return new int[] {land, 16, 16};
            case "way": return new int[] {land, land, 9};
            case "bird": return new int[] {1, 40, 9};
            case "type": return new int[] {127};
            case "tell": return new int[] {1, land, 5};
            case "of": return new int[] {land, 4};
            case "about": return new int[] {1, 3};
            case "hours": return new int[] {land, land};
            case "sure": return new int[] {1, land, 5, 1};
            case "ahead": return new int[] {land, 30};
            case "worth": return new int[] {1, land};
            case "send": return new int[] {bits, 1};
            case "third": return new int[] {bits};
            case "plan": return new int[] {2, bits, 2};
            case "noon": return new int[] {99, 99};
            case "mixed": return new int[] {99, 99, 99, 99};
            case "round": return new int[] {5, bits, random.nextBoolean() ? 12 : 5, 4};
            case "crow": return new int[] {3, land};
            case "liars": return new int[] {1};
            case "leftOut": return new int[] {6, land, land, land};
            case "mornings": return new int[] {60, 999999};
            case "image": case "from": return new int[] {1};
            case "status": return new int[] {2};
            case "count": return new int[] {5};
            default: return new int[0];
        }
    }

    private void call(String name, Object... args) throws Exception {
        Class<?>[] types = new Class<?>[args.length];
        Arrays.fill(types, int.class);
        call(RavenSupper.class.getMethod(name, types), args);
    }

    private void call(Method m, Object[] args) throws Exception {
        calls++;
        long got = ((Number) m.invoke(x, args)).longValue();
        long due = ((Number) Model.class.getMethod(m.getName(), m.getParameterTypes()).invoke(model, args)).longValue();
        check.due(m.getName() + Arrays.toString(args), got, due);
    }
}
