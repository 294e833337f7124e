import java.lang.reflect.InvocationTargetException;
import java.lang.reflect.Method;
import java.lang.reflect.Modifier;
import java.util.ArrayList;
import java.util.List;
import java.util.Random;

/** Calls with any numbers, in any state: each throws only what its head names, and by a throw of the class itself. */
public final class ThrowsTest {
    private static final Check CHECK = new Check();
    private static final int RUNS = 3000;
    private static final int CALLS = 60;
    private static final int[] EDGES = {Integer.MIN_VALUE, Integer.MIN_VALUE + 1, -1000, -2, -1, 5, 6, 7, 8, 9, 10, 11,
        12, 13, 16, 17, 20, 21, 31, 32, 60, 61, 63, 64, 96, 97, 99, 100, 150, 151, 600, 601, 999, 1000, 1 << 30,
        Integer.MAX_VALUE - 1, Integer.MAX_VALUE};

    private final Random random;
    private final Texts texts;
    private final MarchHares hares = new MarchHares();

    private ThrowsTest(long seed) {
        random = new Random(seed);
        texts = new Texts(random);
    }

    private static List<Method> face() {
        List<Method> out = new ArrayList<>();
        for (Method m : MarchHares.class.getDeclaredMethods()) {
            if (Modifier.isPublic(m.getModifiers())) {
                out.add(m);
            }
        }
        out.sort((a, b) -> a.getName().compareTo(b.getName()));
        return out;
    }

    /** Texts good and bad, none of them sure to be asked for by the call that they are written for. */
    private void put() {
        int kind = random.nextInt(5);
        String text = kind == 0 ? texts.down() : kind == 1 ? texts.law() : kind == 2 ? texts.book(hares.told(0))
                : kind == 3 ? texts.work(hares.told(1), hares.told(0)) : texts.days();
        int length = Check.feed(hares, text);
        int reader = random.nextInt(8) == 0 ? random.nextInt(4) : Math.min(kind, 3);
        if (length > hares.count(1) || reader > 0 && length > (reader == 2 ? 60 : 150)) {
            return;
        }
        switch (reader) {
            case 0 -> hares.down(length);
            case 1 -> hares.law(length);
            case 2 -> hares.book(length);
            default -> hares.work(length);
        }
    }

    private Object[] numbersFor(Method m) {
        Object[] numbers = new Object[m.getParameterCount()];
        for (int at = 0; at < numbers.length; at++) {
            numbers[at] = random.nextInt(4) == 0 ? EDGES[random.nextInt(EDGES.length)]
                    : random.nextInt(50) == 0 ? random.nextInt() : random.nextInt(7);
        }
        return numbers;
    }

    private void call(Method m) throws IllegalAccessException {
        int refused = hares.status(0) + hares.status(1);
        int more = 0;
        try {
            m.invoke(hares, numbersFor(m));
        } catch (InvocationTargetException e) {
            more = 1;
            Throwable thrown = e.getCause();
            boolean named = List.of(m.getExceptionTypes()).contains(thrown.getClass());
            CHECK.due(m.getName() + " names " + thrown, named ? 1 : 0, 1);
            // What the machine throws often has no trace at all.
            StackTraceElement[] trace = thrown.getStackTrace();
            boolean own = trace.length > 0 && trace[0].getClassName().equals("MarchHares");
            CHECK.due(m.getName() + " itself throws " + thrown, own ? 1 : 0, 1);
        }
        CHECK.due(m.getName() + " counted by status", hares.status(0) + hares.status(1) - refused, more);
    }

    private void run(List<Method> face) throws IllegalAccessException {
        for (int times = 0; times < CALLS; times++) {
            if (random.nextInt(4) == 0) {
                put();
            }
            call(face.get(random.nextInt(face.size())));
        }
    }

    public static void main(String[] args) throws IllegalAccessException {
        List<Method> face = face();
        for (long seed = 1; seed <= RUNS; seed++) {
            new ThrowsTest(seed).run(face);
        }
        CHECK.end();
    }
}
