import java.lang.reflect.InvocationTargetException;
import java.lang.reflect.Method;
import java.lang.reflect.Modifier;
import java.util.Arrays;

/**
 * Each call of the face by all mixtures of numbers at and beyond the bounds, on an object without BOXES, with some
 * and with as many of all as may be: it answers as the model does and never throws.
 */
final class ExtremesTest {
    private static final int[] NUMBERS = {Integer.MIN_VALUE, -1, 0, 1, 4, 5, 12, 13, 23, 24, 40, 41, Integer.MAX_VALUE};
    private static final int CALLS_OF_ONE = 200;
    private static final Due due = new Due("ExtremesTest");

    private final HatHours x = new HatHours();
    private final PlainModel model = new PlainModel();

    public static void main(String[] args) throws ReflectiveOperationException {
        for (Method m : HatHours.class.getDeclaredMethods()) {
            if (Modifier.isPublic(m.getModifiers())) {
                for (int state = 0; state < 3; state++) {
                    allMixtures(m, state);
                }
            }
        }
        due.close();
    }

    private static void allMixtures(Method m, int state) throws ReflectiveOperationException {
        int mixtures = 1;
        for (int i = 0; i < m.getParameterCount(); i++) {
            mixtures *= NUMBERS.length;
        }
        ExtremesTest both = null;
        for (int mixture = 0; mixture < mixtures; mixture++) {
            // Anew now and then: an object is for 512 calls.
            if (mixture % CALLS_OF_ONE == 0) {
                both = new ExtremesTest();
                both.bringTo(state);
            }
            Object[] numbers = new Object[m.getParameterCount()];
            int left = mixture;
            for (int i = 0; i < numbers.length; i++) {
                numbers[i] = NUMBERS[left % NUMBERS.length];
                left /= NUMBERS.length;
            }
            both.call(m, numbers);
        }
    }

    private void bringTo(int state) throws ReflectiveOperationException {
        if (state == 0) {
            return;
        }
        tell("bonnet 5 12 3 8 0;veil 3 4 2 23 4;order 1;start 20;");
        call("see", 0, 9, 12);
        call("keep", 1);
        call("sheet", 0, 0, 4);
        call("lay", 0, 1, 1);
        call("sheet", 1, 1, 3);
        if (state == 1) {
            return;
        }
        for (int i = 0; i < 5; i++) {
            call("sew", i % 4, 12, 23);
            call("see", i, i, i);
        }
        call("keep", 0);
        call("sheet", 0, 2, 40);
        for (int i = 0; i < 160; i++) {
            call("feed", 32);
        }
    }

    private void tell(String text) throws ReflectiveOperationException {
        for (int i = 0; i < text.length(); i++) {
            call("feed", (int) text.charAt(i));
        }
        call("text");
    }

    private void call(String name, Object... numbers) throws ReflectiveOperationException {
        Class<?>[] types = new Class<?>[numbers.length];
        Arrays.fill(types, int.class);
        call(HatHours.class.getMethod(name, types), numbers);
    }

    private void call(Method m, Object[] numbers) throws ReflectiveOperationException {
        String call = m.getName() + Arrays.toString(numbers);
        Method same = PlainModel.class.getDeclaredMethod(m.getName(), m.getParameterTypes());
        long want = ((Number) same.invoke(model, numbers)).longValue();
        try {
            due.is(call, ((Number) m.invoke(x, numbers)).longValue(), want);
        } catch (InvocationTargetException e) {
            due.is(call + " threw " + e.getCause(), 1, 0);
        }
    }
}
