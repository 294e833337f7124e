import java.lang.reflect.InvocationTargetException;
import java.lang.reflect.Method;
import java.util.ArrayList;
import java.util.List;
import java.util.Random;

/** Drawn runs of calls, each put to the class and to the model: both must answer, or throw, alike. */
public final class ModelTest {
    private static final int CALLS = 500;
    private static final List<Method> FACE = faceOf(MarchHares.class);
    private static final List<Method> MODEL = faceOf(Model.class);

    private final Random random;
    private final Texts texts;
    private final MarchHares hares = new MarchHares();
    private final Model model = new Model();
    private final List<String> told = new ArrayList<>();
    // Some runs seldom go back, so that works fill up and years go by.
    private final boolean keepsGoing;
    private boolean alike = true;

    private ModelTest(long seed) {
        random = new Random(seed);
        texts = new Texts(random);
        keepsGoing = seed % 3 == 0;
    }

    private static List<Method> faceOf(Class<?> of) {
        List<Method> out = new ArrayList<>();
        for (Method m : of.getDeclaredMethods()) {
            if (java.lang.reflect.Modifier.isPublic(m.getModifiers())) {
                m.setAccessible(true);
                out.add(m);
            }
        }
        out.sort((a, b) -> a.getName().compareTo(b.getName()));
        return out;
    }

    private static Object answer(Method m, Object of, Object[] args) {
        try {
            return m.invoke(of, args);
        } catch (InvocationTargetException e) {
            return "throws " + e.getCause().getClass().getSimpleName();
        } catch (IllegalAccessException e) {
            throw new IllegalStateException(e);
        }
    }

    private Object call(String name, Object... args) {
        Method mine = null;
        Method theirs = null;
        for (int i = 0; i < FACE.size(); i++) {
            if (FACE.get(i).getName().equals(name)) {
                mine = FACE.get(i);
                theirs = MODEL.get(i);
            }
        }
        Object got = answer(mine, hares, args);
        Object want = answer(theirs, model, args);
        told.add(name + java.util.Arrays.toString(args) + " = " + got);
        if (!got.equals(want)) {
            alike = false;
            told.add("  .. but due is " + want);
        }
        return got;
    }

    private void feed(String text) {
        told.add("text: " + text);
        for (int from = 0; from < text.length(); from += 20) {
            Object[] numbers = new Object[5];
            for (int n = 0; n < 5; n++) {
                int v = 0;
                for (int b = 0; b < 4; b++) {
                    int at = from + 4 * n + b;
                    v = v << 8 | (at < text.length() ? text.charAt(at) & 255 : 32);
                }
                numbers[n] = v;
            }
            call("feed", numbers);
        }
    }

    private void text(String name, String text) {
        int there = (Integer) call("count", 1);
        if (there > 0 && random.nextInt(4) > 0) {
            call("book", 0);
        }
        feed(text);
        call(name, random.nextInt(30) == 0 ? random.nextInt(160) - 3 : text.length());
        call("fault");
    }

    private int near(int least, int most) {
        switch (random.nextInt(60)) {
            case 0: return least - 1;
            case 1: return most + 1;
            case 2: return random.nextInt();
            case 3: return least;
            case 4: return most;
            default: return most < least ? least : least + random.nextInt(most - least + 1);
        }
    }

    private int aHare() {
        return near(0, (Integer) answer(method(MODEL, "told"), model, new Object[] {1}) - 1);
    }

    private int aForm() {
        return near(0, (Integer) answer(method(MODEL, "told"), model, new Object[] {0}) - 1);
    }

    private int aFox() {
        return near(0, (Integer) answer(method(MODEL, "told"), model, new Object[] {2}) - 1);
    }

    private static Method method(List<Method> of, String name) {
        for (Method m : of) {
            if (m.getName().equals(name)) {
                return m;
            }
        }
        throw new IllegalStateException(name);
    }

    private void ask() {
        String name = FACE.get(random.nextInt(FACE.size())).getName();
        if (keepsGoing && List.of("undo", "restore", "down").contains(name)) {
            name = random.nextInt(15) == 0 ? name : "work";
        }
        switch (name) {
            case "told" -> call(name, near(0, 11));
            case "form" -> call(name, aForm(), near(0, 3));
            case "hare" -> call(name, aHare(), near(0, 7));
            case "fox" -> call(name, aFox(), near(0, 1));
            case "debt" -> call(name, aHare(), aHare());
            case "far" -> call(name, aForm(), aForm());
            case "would" -> call(name, near(0, 9), near(0, 999), near(0, 999), near(0, 999), near(0, 5), near(1, 31),
                    near(0, 5), near(0, 999));
            case "can", "hops" -> call(name, aHare(), aForm());
            case "ahead" -> call(name, near(0, 99), near(0, 2));
            case "seat", "bouts", "range" -> call(name, aHare());
            case "ringed" -> call(name, near(0, 8));
            case "fits", "look", "strongest" -> call(name, near(0, 1));
            case "watch" -> call(name, random.nextBoolean() ? near(0, 12) : near(0, 60));
            case "few" -> call(name, near(0, 12), near(0, 12), near(0, 16), near(0, 1));
            case "road" -> call(name, near(0, 99), random.nextInt(4) == 0 ? 0 : near(0, 99), near(0, 2));
            case "clover" -> call(name, aHare(),
                    near(0, (1 << (Integer) answer(method(MODEL, "told"), model, new Object[] {1})) - 1),
                    random.nextBoolean() ? near(0, 999) : near(0, 99));
            case "ties" -> call(name, aHare(), near(0, 1));
            case "refuge" -> call(name, aForm(), near(0, 1));
            case "march" -> call(name, random.nextInt(), near(1, 96), near(0, 3));
            case "span" -> call(name, random.nextInt(), near(1, 20), near(1, 96), near(0, 2), aHare());
            case "status", "count" -> call(name, near(0, 2));
            case "seats", "ring", "fault" -> call(name);
            case "undo" -> {
                if (random.nextInt(3) == 0) {
                    call(name);
                }
            }
            case "image", "restore" -> call(name);
            case "down" -> {
                if (random.nextInt(6) == 0) {
                    text(name, texts.down());
                }
            }
            case "law" -> text(name, texts.law());
            case "book" -> text(name, texts.book(model.told(0)));
            case "work" -> text(name, keepsGoing && random.nextInt(3) == 0
                    ? texts.days() : texts.work(model.told(1), model.told(0)));
            case "feed" -> {
                for (int i = random.nextInt(50) == 0 ? 32 : random.nextInt(2); i > 0; i--) {
                    call(name, random.nextInt(), random.nextInt(), 0, -1, 0x61203b20);
                }
            }
            default -> { }
        }
    }

    /** Everything that can be asked without changing anything. */
    private void askAll() {
        for (int what = 0; what <= 11; what++) {
            call("told", what);
        }
        for (int h = 0; h < model.told(1); h++) {
            for (int what = 0; what <= 7; what++) {
                call("hare", h, what);
            }
            call("range", h);
            call("seat", h);
            call("bouts", h);
        }
        for (int what = 0; what < 3; what++) {
            call("count", what);
        }
    }

    private boolean run() {
        text("down", texts.down());
        for (int i = 0; i < CALLS && alike; i++) {
            ask();
            if (random.nextInt(50) == 0) {
                askAll();
            }
        }
        return alike;
    }

    public static void main(String[] args) {
        int runs = args.length > 0 ? Integer.parseInt(args[0]) : 300;
        long first = args.length > 1 ? Long.parseLong(args[1]) : 1;
        int wrong = 0;
        long calls = 0;
        for (long seed = first; seed < first + runs; seed++) {
            ModelTest test = new ModelTest(seed);
            if (!test.run()) {
                wrong++;
                int from = Math.max(0, test.told.size() - 25);
                System.out.println("run " + seed + ":\n" + String.join("\n", test.told.subList(from, test.told.size())));
            }
            calls += test.told.size();
        }
        System.out.println(runs + " runs, " + calls + " rows, " + wrong + " not alike");
        if (wrong > 0 || FACE.size() != MODEL.size()) {
            System.exit(1);
        }
    }
}
