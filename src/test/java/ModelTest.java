import java.lang.reflect.InvocationTargetException;
import java.lang.reflect.Method;
import java.lang.reflect.Modifier;
import java.util.ArrayList;
import java.util.Arrays;
import java.util.Comparator;
import java.util.List;
import java.util.Random;

/** Runs of up to 512 calls by a seed, each answered by the class and by the model alike. */
final class ModelTest {
    private static final int RUNS = 1500, CALLS = 512;
    private static final int[] EDGES = {-1, 0, 1, 23, 24, Integer.MIN_VALUE, Integer.MAX_VALUE};
    private static final Due due = new Due("ModelTest");

    public static void main(String[] args) throws ReflectiveOperationException {
        List<Method> face = new ArrayList<>();
        for (Method m : HatHours.class.getDeclaredMethods()) {
            if (Modifier.isPublic(m.getModifiers())) {
                face.add(m);
            }
        }
        face.sort(Comparator.comparing(Method::getName));
        for (int run = 0; run < RUNS; run++) {
            oneRun(face, new Random(run), run);
        }
        due.close();
    }

    private static void oneRun(List<Method> face, Random random, int run) throws ReflectiveOperationException {
        HatHours x = new HatHours();
        PlainModel model = new PlainModel();
        int calls = 0;
        while (calls < CALLS) {
            if (random.nextInt(60) == 0 || calls == 0) {
                String text = someText(random);
                for (int i = 0; i < text.length() && calls < CALLS - 1; i++, calls++) {
                    due.is("run " + run + " feed", x.feed(text.charAt(i)), model.feed(text.charAt(i)));
                }
                calls++;
                due.is("run " + run + " text() of '" + text + "'", x.text(), model.text());
                due.is("run " + run + " fault() of '" + text + "'", x.fault(), model.fault());
                calls++;
            } else if (random.nextInt(30) == 0) {
                // What is so is SEEN, as no number by chance would have it.
                int room = random.nextInt(5);
                int hour = random.nextInt(24);
                int oclock = model.clock(room, hour, 0);
                due.is("run " + run + " see", x.see(room, hour, oclock), model.see(room, hour, oclock));
                calls++;
            } else if (random.nextInt(60) == 0) {
                calls += someSheet(x, model, random, run, CALLS - calls);
            } else {
                Method m = face.get(random.nextInt(face.size()));
                Object[] numbers = someNumbers(m, random);
                String call = "run " + run + " " + m.getName() + Arrays.toString(numbers);
                due.is(call, answer(m, x, numbers), answer(modelMethod(m), model, numbers));
                calls++;
            }
        }
    }

    /** A SHEET of what sew() mostly takes, so that read() comes further than its first refusal. */
    private static int someSheet(HatHours x, PlainModel model, Random random, int run, int atMost) {
        int k = random.nextInt(4);
        int lane = random.nextInt(3);
        int cells = random.nextInt(19);
        due.is("run " + run + " sheet", x.sheet(k, lane, cells), model.sheet(k, lane, cells));
        int calls = 1;
        for (int i = 0; i < cells && calls < atMost; i++, calls++) {
            int v = i % 3 == 0 ? random.nextInt(4) : 1 + random.nextInt(12);
            v += random.nextInt(9) == 0 ? 1 << random.nextInt(20) : 0;
            due.is("run " + run + " lay", x.lay(k, i, v), model.lay(k, i, v));
        }
        return calls;
    }

    private static Method modelMethod(Method m) throws NoSuchMethodException {
        return PlainModel.class.getDeclaredMethod(m.getName(), m.getParameterTypes());
    }

    private static long answer(Method m, Object on, Object[] numbers) throws ReflectiveOperationException {
        try {
            return ((Number) m.invoke(on, numbers)).longValue();
        } catch (InvocationTargetException e) {
            throw new IllegalStateException(m.getName() + Arrays.toString(numbers), e.getCause());
        }
    }

    /** Mostly small ones, that fit; now and then an edge. */
    private static Object[] someNumbers(Method m, Random random) {
        Object[] numbers = new Object[m.getParameterCount()];
        for (int i = 0; i < numbers.length; i++) {
            int sort = random.nextInt(20);
            numbers[i] = sort == 0 ? EDGES[random.nextInt(EDGES.length)]
                    : sort == 1 ? random.nextInt()
                    : sort < 8 ? random.nextInt(25)
                    : sort < 12 ? random.nextInt(14)
                    : random.nextInt(sort < 16 ? 5 : 2);
        }
        return numbers;
    }

    private static String someText(Random random) {
        StringBuilder text = new StringBuilder();
        String[] kinds = {"bonnet", "veil", "toque", "bridal"};
        int boxes = random.nextInt(6);
        int rooms = 1 + random.nextInt(5);
        for (int b = 0; b < boxes; b++) {
            text.append(kinds[random.nextInt(4)]).append(' ').append(1 + random.nextInt(12)).append(' ')
                    .append(random.nextInt(24)).append(' ').append(1 + random.nextInt(9)).append(' ')
                    .append(random.nextInt(24)).append(' ').append(random.nextInt(rooms)).append(';');
        }
        if (random.nextBoolean()) {
            text.append("order");
            for (int b = boxes - 1; b >= 0 && random.nextInt(3) > 0; b -= 1 + random.nextInt(2)) {
                text.append(' ').append(b);
            }
            text.append(';');
        }
        if (random.nextBoolean()) {
            text.append("start ").append(random.nextInt(24)).append(';');
        }
        for (int spoil = random.nextInt(4); spoil > 2 && text.length() > 0; spoil--) {
            spoil(text, random);
        }
        return text.substring(0, Math.min(160, text.length()));
    }

    private static void spoil(StringBuilder text, Random random) {
        int at = random.nextInt(text.length());
        String bytes = " ;;0123459abnostvz@";
        switch (random.nextInt(4)) {
            case 0:
                text.deleteCharAt(at);
                break;
            case 1:
                text.setCharAt(at, bytes.charAt(random.nextInt(bytes.length())));
                break;
            case 2:
                text.insert(at, bytes.charAt(random.nextInt(bytes.length())));
                break;
            default:
                text.append(text.substring(at));
        }
    }
}
