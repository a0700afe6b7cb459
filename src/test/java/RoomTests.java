import com.sun.management.ThreadMXBean;
import java.lang.management.ManagementFactory;
import java.lang.reflect.InvocationTargetException;
import java.lang.reflect.Method;
import java.lang.reflect.Modifier;
import java.util.Arrays;
import java.util.Comparator;
import java.util.Random;

/** Nothing is thrown for any numbers in any state, and no call makes an object: all room is made by the constructor. */
public final class RoomTests {
    private static final int[] EDGES = {Integer.MIN_VALUE, Integer.MIN_VALUE + 1, -1000000, -256, -2, -1, 0, 1, 2, 3, 5, 6, 7, 10,
        11, 12, 23, 24, 40, 41, 48, 49, 59, 99, 100, 159, 160, 255, 256, 999, 1000, 4820, 9999, 99999, Integer.MAX_VALUE - 1,
        Integer.MAX_VALUE};

    private RoomTests() { }

    public static void main(String[] args) throws IllegalAccessException {
        neverThrows();
        makesNothing();
        Check.end("RoomTests");
    }

    private static void neverThrows() throws IllegalAccessException {
        Method[] face = Arrays.stream(ThrownBack.class.getDeclaredMethods()).filter(m -> Modifier.isPublic(m.getModifiers()))
                .sorted(Comparator.comparing(Method::getName)).toArray(Method[]::new);
        Random random = new Random(5);
        for (int run = 0; run < 200; run++) {
            ThrownBack x = run % 2 == 0 ? new ThrownBack() : full();
            for (int i = 0; i < 512; i++) {
                Method one = face[random.nextInt(face.length)];
                Object[] numbers = new Object[one.getParameterCount()];
                for (int k = 0; k < numbers.length; k++) {
                    numbers[k] = random.nextInt(3) == 0 ? EDGES[random.nextInt(EDGES.length)] : (Integer) random.nextInt(8);
                }
                String call = one.getName();
                try {
                    one.invoke(x, numbers);
                    Check.holds(call, true);
                } catch (InvocationTargetException e) {
                    Check.holds(call + Arrays.toString(numbers) + " threw " + e.getCause(), false);
                }
            }
        }
    }

    /** All that may be there is there; snow and text are dear. */
    private static ThrownBack full() {
        ThrownBack x = new ThrownBack();
        for (int g = 0; g < 12; g++) {
            x.owner(g * 5, g * 2);
            x.put(g, 4, g / 3 % 2);
        }
        for (int k = 0; k < 6; k++) {
            x.pass(k * 4, k % 2);
        }
        x.force(Check.text(x, "falls (hour+wall+more)*2;takes ((((wall*more+heap)*2)))or gate;lifts not wall<passes and hour=3;"));
        x.image();
        for (int s = 0; s < 4; s++) {
            x.film(s, 12 * s);
        }
        return x;
    }

    private static void makesNothing() {
        ThreadMXBean beans = (ThreadMXBean) ManagementFactory.getThreadMXBean();
        ThrownBack x = full();
        long answers = 0;
        long before = 0;
        for (int round = 0; round < 60; round++) {
            if (round == 10) {
                before = beans.getThreadAllocatedBytes(Thread.currentThread().getId());
            }
            answers += allCalls(x, round);
        }
        long made = beans.getThreadAllocatedBytes(Thread.currentThread().getId()) - before;
        Check.holds("bytes made by 50 rounds of calls: " + made + " (" + answers + ")", made < 1000);
    }

    private static long allCalls(ThrownBack x, int round) {
        long sum = x.count(0) + x.set(1, round) + x.feed(1, 97, 0, 0, 0, 0) + x.text() + x.force(round % 2) + x.asks(1, 3, 99);
        sum += x.owner(0, 0) + x.put(3, 0, round) + x.told(3, 0) + x.pass(0, 0) + x.move(3, 4, 1) + x.comes(3) + x.live();
        sum += x.run(48, 3) + x.when(3, 48, 1) + x.dig(3, 48, 0) + x.blade(48, 0) + x.sides(48, 1) + x.gains(3, 48, 1);
        sum += x.helps(3, 48, 1) + x.film(1, 30) + x.judge(1, 30) + x.kinds(1, 30, 3, 2) + x.hours(1, 1) + x.laws(1, 30);
        sum += x.drawn(round, 48, 992) + x.odds(round, 4820, 3, 99, 1) + x.image() + x.back() + x.sheet(2, 0, 40);
        return sum + x.cell(2, 3, 4) + x.copy(2, 0, 2, 5, 9) + x.ownersBy(2, 0, 0, 12) + x.taken(3, 3);
    }
}
