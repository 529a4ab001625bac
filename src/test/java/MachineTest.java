import java.lang.reflect.InvocationTargetException;
import java.lang.reflect.Method;
import java.lang.reflect.Modifier;
import java.util.ArrayList;
import java.util.Comparator;
import java.util.List;
import java.util.NoSuchElementException;
import java.util.Random;

/** Calls with whatever arguments in whatever state: nothing is thrown but by house, and that as the document says. */
public final class MachineTest {
    private static final Told TOLD = new Told("machine");
    private static final int[] NUMBERS = {
        Integer.MIN_VALUE, Integer.MIN_VALUE + 1, -1000001, -1000000, -240, -100, -99, -7, -6, -2, -1, 0, 1, 2, 3, 4, 5, 6, 7, 8, 9,
        10, 11, 12, 13, 14, 16, 17, 30, 31, 50, 51, 59, 60, 61, 99, 100, 101, 239, 240, 241, 999, 1000, 9999, 65536, 0x70703b70,
        Integer.MAX_VALUE - 1, Integer.MAX_VALUE
    };

    private MachineTest() {
    }

    public static void main(String[] args) throws IllegalAccessException {
        List<Method> face = new ArrayList<>();
        for (Method m : CrossedFavours.class.getDeclaredMethods()) {
            if (Modifier.isPublic(m.getModifiers())) {
                face.add(m);
            }
        }
        face.sort(Comparator.comparing(Method::getName));
        for (int run = 0; run < 600; run++) {
            Random random = new Random(run);
            CrossedFavours x = new CrossedFavours();
            for (int i = run % 5; i > 0; i--) {
                Told.text(x, 0, Texts.village(random));
                Told.text(x, 2, Texts.song(random, 6));
                Told.text(x, 1, Texts.law(random));
            }
            for (int i = 0; i < 440; i++) {
                call(x, face.get(random.nextInt(face.size())), random, run);
            }
        }
        TOLD.close();
    }

    private static void call(CrossedFavours x, Method m, Random random, int run) throws IllegalAccessException {
        boolean wild = random.nextBoolean();
        Object[] given = new Object[m.getParameterCount()];
        for (int i = 0; i < given.length; i++) {
            Class<?> type = m.getParameterTypes()[i];
            int number = wild ? NUMBERS[random.nextInt(NUMBERS.length)] : random.nextInt(7) - 1;
            given[i] = type == long.class ? (Object) random.nextLong() : type == boolean.class ? (Object) random.nextBoolean() : (Object) number;
        }
        String thrown = "nothing";
        try {
            m.invoke(x, given);
        } catch (InvocationTargetException e) {
            boolean due = m.getName().equals("house") && e.getCause().getClass() == NoSuchElementException.class;
            thrown = due ? "nothing" : e.getCause().toString();
        }
        TOLD.due("run " + run + ": " + m.getName() + " throws " + thrown, true, thrown.equals("nothing"));
    }
}
