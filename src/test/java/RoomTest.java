import java.lang.management.ManagementFactory;
import java.lang.reflect.Array;
import java.lang.reflect.Field;
import java.lang.reflect.Modifier;
import java.util.ArrayDeque;
import java.util.Collections;
import java.util.IdentityHashMap;
import java.util.Random;
import java.util.Set;

/** All calls of one run share one room, so an object is made of little, and its calls make nothing more. */
public final class RoomTest {
    private static final Told TOLD = new Told("room");
    /** The room is 600,000 objects and 7.3 million fields and elements: hundreds of objects of the class have place in it. */
    private static final int MOST_OBJECTS = 600;
    private static final int MOST_ELEMENTS = 14000;
    private static final int CALLS = 500;
    private static final int TIMES = 40;

    private RoomTest() {
    }

    public static void main(String[] args) throws IllegalAccessException {
        CrossedFavours x = busy(0);
        int[] fresh = measured(new CrossedFavours());
        int[] used = measured(x);
        TOLD.due("objects: " + fresh[0], true, fresh[0] <= MOST_OBJECTS);
        TOLD.due("fields and elements: " + fresh[1], true, fresh[1] <= MOST_ELEMENTS);
        TOLD.due("objects of a used one: " + used[0], true, used[0] <= fresh[0]);
        TOLD.due("fields and elements of a used one: " + used[1], true, used[1] <= fresh[1]);
        callsMakeNothing();
        TOLD.close();
    }

    /** A village, songs and laws as long and as deep as they can be. */
    private static CrossedFavours busy(int seed) {
        CrossedFavours x = Told.singing("sc99m99;p;p;p;p;p;p;f;fa1b2;fa2b3;fa3b4;fa4b5;fa5b0", "0123450123450123", "01234501", "3", "50");
        Told.text(x, 1, "y:!(i>[o+[t-1]])&w<9?[i*2]/[n+1]-3;y:d+1");
        x.law(0);
        x.give(50);
        x.years(30, seed);
        x.image();
        return x;
    }

    /** How many objects and arrays hang on one, and how many fields and elements these have. */
    private static int[] measured(Object root) throws IllegalAccessException {
        Set<Object> met = Collections.newSetFromMap(new IdentityHashMap<>());
        ArrayDeque<Object> open = new ArrayDeque<>();
        open.add(root);
        met.add(root);
        int elements = 0;
        while (!open.isEmpty()) {
            Object one = open.poll();
            if (one.getClass().isArray()) {
                int length = Array.getLength(one);
                elements += length;
                for (int i = 0; i < length && !one.getClass().getComponentType().isPrimitive(); i++) {
                    meet(Array.get(one, i), met, open);
                }
                continue;
            }
            for (Class<?> c = one.getClass(); c != Object.class; c = c.getSuperclass()) {
                for (Field f : c.getDeclaredFields()) {
                    if (!Modifier.isStatic(f.getModifiers())) {
                        elements++;
                        f.setAccessible(true);
                        if (!f.getType().isPrimitive()) {
                            meet(f.get(one), met, open);
                        }
                    }
                }
            }
        }
        return new int[] {met.size(), elements};
    }

    private static void meet(Object one, Set<Object> met, ArrayDeque<Object> open) {
        if (one != null && met.add(one)) {
            open.add(one);
        }
    }

    private static void callsMakeNothing() {
        com.sun.management.ThreadMXBean counter = (com.sun.management.ThreadMXBean) ManagementFactory.getThreadMXBean();
        CrossedFavours[] objects = new CrossedFavours[TIMES];
        for (int i = 0; i < TIMES; i++) {
            objects[i] = busy(i);
        }
        int[] numbers = new Random(3).ints(CALLS * 4L, -1, 7).toArray();
        callAll(objects[0], numbers);
        counter.getCurrentThreadAllocatedBytes();
        long ahead = counter.getCurrentThreadAllocatedBytes();
        for (int i = 1; i < TIMES; i++) {
            callAll(objects[i], numbers);
        }
        long made = counter.getCurrentThreadAllocatedBytes() - ahead;
        // the counter itself may take some bytes, but a single object a call would be some 300,000
        TOLD.due("bytes made by " + CALLS * (TIMES - 1) + " calls: " + made, true, made < 10000);
    }

    private static void callAll(CrossedFavours x, int[] numbers) {
        for (int i = 0; i + 4 <= numbers.length; i += 4) {
            call(x, i / 4 % 38, numbers[i], numbers[i + 1], numbers[i + 2], numbers[i + 3]);
        }
    }

    /** Every call but house, whose exception is made where the document asks for it. */
    private static long call(CrossedFavours x, int which, int a, int b, int c, int d) {
        return which < 19 ? acts(x, which, a, b, c) : looks(x, which, a, b, c, d);
    }

    private static long acts(CrossedFavours x, int which, int a, int b, int c) {
        return switch (which) {
            case 0 -> x.feed(0x703b703b, 0x663b7000, 0x793a3100, 0, 0x30000000 + a);
            case 1 -> x.end(a) ? 1 : 0;
            case 2 -> x.fault(a);
            case 3 -> x.text(a == 0 ? 1 : a);
            case 4 -> x.owes(a, b);
            case 5 -> x.law(a) ? 1 : 0;
            case 6 -> x.sung(a, b);
            case 7 -> x.grace(a) ? 1 : 0;
            case 8 -> x.cross(a);
            case 9 -> x.sing(a);
            case 10 -> x.gives(a, b, c);
            case 11 -> x.forgives(a, b);
            case 12 -> x.keep(a);
            case 13 -> x.give(a);
            case 14 -> x.years(a, b);
            case 15 -> x.status(a);
            case 16 -> x.undo();
            case 17 -> x.log(a, b);
            default -> x.count(a);
        };
    }

    private static long looks(CrossedFavours x, int which, int a, int b, int c, int d) {
        return switch (which) {
            case 19 -> x.after(a, b, c, d);
            case 20 -> x.worthAfter(a, b, c);
            case 21 -> x.again(a, b);
            case 22 -> x.like(a);
            case 23 -> x.reach(a);
            case 24 -> x.straight(a);
            case 25 -> x.fewest(a, b);
            case 26 -> x.ring();
            case 27 -> x.chain(a, b);
            case 28 -> x.seen(a, b, c, d, true);
            case 29 -> x.fits();
            case 30 -> x.ask(a, b);
            case 31 -> x.game(a, b, c, d, 0);
            case 32 -> x.rests(a, b, c);
            case 33 -> x.odds(a, 30);
            case 34 -> x.shares(a, 500);
            case 35 -> x.all(a);
            case 36 -> x.image();
            default -> x.back();
        };
    }
}
