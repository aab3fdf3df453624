import java.lang.reflect.Constructor;
import java.lang.reflect.Field;
import java.lang.reflect.InvocationTargetException;
import java.lang.reflect.Method;
import java.math.BigInteger;
import java.util.ArrayList;
import java.util.HashMap;
import java.util.List;
import java.util.Map;
import java.util.Random;

/**
 * The whole numbers of any size inside the class, against BigInteger: few runs of calls lead the values beyond what a
 * long can hold, and none of them to each carry and each rounding.
 */
public final class WholeTest {
    private static final Random RANDOM = new Random(1);
    private static final int MOST_FACTOR = (1 << 30) - 1;

    /** One number of the class, reached from outside. */
    private static final class Reached {
        private static final Class<?> WHOLE = find();
        private static final Map<String, Method> METHODS = methods();
        private static final Map<BigInteger, Reached> MADE = new HashMap<>();
        private static final BigInteger BEFORE = BigInteger.ONE.shiftLeft(1100).subtract(BigInteger.ONE).negate();
        private final Object whole = make();

        static Reached of(BigInteger number) {
            Reached copy = new Reached();
            // What was in the limbs before must not count.
            copy.call("copyFrom", MADE.computeIfAbsent(BEFORE, Reached::built).whole);
            if (number.bitLength() < 64) {
                copy.call("become", number.longValue());
            } else {
                copy.call("copyFrom", MADE.computeIfAbsent(number, Reached::built).whole);
            }
            return copy;
        }

        private static Reached built(BigInteger number) {
            Reached built = new Reached();
            Reached digit = new Reached();
            for (byte b : number.abs().toByteArray()) {
                built.call("scale", 256L, 1L);
                digit.call("become", (long) (b & 255));
                built.call("add", digit.whole, 1L);
            }
            if (number.signum() < 0) {
                digit.call("copyFrom", built.whole);
                built.call("add", digit.whole, -2L);
            }
            return built;
        }

        private static Class<?> find() {
            try {
                return Class.forName("LiftingSignal$Whole");
            } catch (ClassNotFoundException none) {
                throw new IllegalStateException(none);
            }
        }

        private static Map<String, Method> methods() {
            Map<String, Method> methods = new HashMap<>();
            for (Method method : WHOLE.getDeclaredMethods()) {
                method.setAccessible(true);
                methods.put(method.getName(), method);
            }
            return methods;
        }

        private static Object make() {
            try {
                Constructor<?> constructor = WHOLE.getDeclaredConstructor();
                constructor.setAccessible(true);
                return constructor.newInstance();
            } catch (ReflectiveOperationException none) {
                throw new IllegalStateException(none);
            }
        }

        Object call(String name, Object... arguments) {
            try {
                return METHODS.get(name).invoke(whole, arguments);
            } catch (InvocationTargetException thrown) {
                Check.fail(name + " threw " + thrown.getCause());
                return 0;
            } catch (IllegalAccessException none) {
                throw new IllegalStateException(none);
            }
        }

        private Object field(String name) {
            try {
                Field field = WHOLE.getDeclaredField(name);
                field.setAccessible(true);
                return field.get(whole);
            } catch (ReflectiveOperationException none) {
                throw new IllegalStateException(none);
            }
        }

        /** What the limbs tell; the number must have one form alone. */
        BigInteger told() {
            int[] limbs = (int[]) field("limbs");
            int used = (int) field("used");
            boolean isNegative = (boolean) field("isNegative");
            BigInteger amount = BigInteger.ZERO;
            for (int i = used - 1; i >= 0; i--) {
                amount = amount.shiftLeft(32).add(BigInteger.valueOf(limbs[i] & 0xffffffffL));
            }
            if (used > 0 && limbs[used - 1] == 0 || used == 0 && (isNegative || limbs[0] != 0)) {
                Check.fail("the number " + amount + " is not in its form");
            }
            return isNegative ? amount.negate() : amount;
        }
    }

    public static void main(String[] args) {
        List<BigInteger> numbers = numbers();
        for (BigInteger number : numbers) {
            one(number);
            for (int i = 0; i < 40; i++) {
                two(number, numbers.get(RANDOM.nextInt(numbers.size())));
            }
            // neighbours: sums around 0, and amounts that are equal or nearly so
            two(number, number);
            two(number, number.negate());
            two(number, number.add(BigInteger.ONE));
            two(number.negate(), number.add(BigInteger.ONE));
        }
        growsNoFurther();
        Check.end();
    }

    private static List<BigInteger> numbers() {
        List<BigInteger> numbers = new ArrayList<>();
        for (int bits : new int[] {0, 1, 14, 29, 30, 31, 32, 33, 60, 61, 62, 63, 64, 65, 95, 96, 97, 127, 128, 129, 500, 1023}) {
            for (int off = -1; off <= 1; off++) {
                numbers.add(BigInteger.ONE.shiftLeft(bits).add(BigInteger.valueOf(off)));
            }
            numbers.add(new BigInteger(bits + 1, RANDOM));
            // near the middle between two doubles, with a bit far below it or without
            if (bits > 54) {
                BigInteger middle = BigInteger.ONE.shiftLeft(bits).add(BigInteger.ONE.shiftLeft(bits - 53));
                numbers.add(middle);
                for (int low = 0; low < bits - 53; low += 1 + low / 8) {
                    numbers.add(middle.add(BigInteger.ONE.shiftLeft(low)));
                    numbers.add(middle.subtract(BigInteger.ONE.shiftLeft(low)));
                }
                numbers.add(middle.add(BigInteger.ONE.shiftLeft(bits - 52)));
            }
        }
        int count = numbers.size();
        for (int i = 0; i < count; i++) {
            numbers.add(numbers.get(i).negate());
        }
        return numbers;
    }

    private static void same(String call, Object got, Object due) {
        if (!got.equals(due)) {
            Check.fail(call + " answered " + got + ", due is " + due);
        }
    }

    private static void one(BigInteger number) {
        Reached whole = Reached.of(number);
        same("the number", whole.told(), number);
        same("isZero of " + number, whole.call("isZero"), number.signum() == 0);
        same("isBelowZero of " + number, whole.call("isBelowZero"), number.signum() < 0);
        same("bitsOfAmount of " + number, whole.call("bitsOfAmount"), number.abs().bitLength());
        same("toLong of " + number, whole.call("toLong"), number.longValue());
        same("toDouble of " + number, whole.call("toDouble"), number.doubleValue() + 0.0);
        for (long limit : new long[] {0, 1, 2, 9999, 10000, 100000}) {
            same("isAmountBelow of " + number, whole.call("isAmountBelow", limit),
                    number.abs().compareTo(BigInteger.valueOf(limit)) < 0);
        }
        long[] factors = {0, 1, 2, 3, 9999, 19998, 399920004, MOST_FACTOR, 1 + RANDOM.nextInt(MOST_FACTOR)};
        for (long part : factors) {
            for (long divisor : factors) {
                if (divisor > 0) {
                    scaled(number, part, divisor);
                }
            }
        }
        Reached dropped = Reached.of(number);
        dropped.call("dropSign");
        same("dropSign of " + number, dropped.told(), number.abs());
    }

    private static void scaled(BigInteger number, long part, long divisor) {
        Reached whole = Reached.of(number);
        BigInteger by = BigInteger.valueOf(divisor);
        same("restOfAmount of " + number, whole.call("restOfAmount", divisor), number.abs().mod(by).longValue());
        whole.call("scale", part, divisor);
        BigInteger product = number.multiply(BigInteger.valueOf(part));
        same(number + " scaled by " + part + " / " + divisor, whole.told(), product.subtract(product.mod(by)).divide(by));
    }

    private static void two(BigInteger a, BigInteger b) {
        Reached second = Reached.of(b);
        for (long factor : new long[] {0, 1, -1, 2, -2, 19998, -19998, MOST_FACTOR, -MOST_FACTOR}) {
            Reached first = Reached.of(a);
            first.call("add", second.whole, factor);
            same(a + " plus " + factor + " times " + b, first.told(), a.add(b.multiply(BigInteger.valueOf(factor))));
        }
        Reached first = Reached.of(a);
        same("compareAmount of " + a + " and " + b, first.call("compareAmount", second.whole), a.abs().compareTo(b.abs()));
        first.call("copyFrom", second.whole);
        same("the copy of " + b, first.told(), b);
        same("what was copied", second.told(), b);
    }

    /** No 512 calls lead there: but no call may throw. */
    private static void growsNoFurther() {
        Reached whole = Reached.of(BigInteger.ONE.shiftLeft(100));
        Reached other = Reached.of(BigInteger.ONE.shiftLeft(100));
        for (int i = 0; i < 2000; i++) {
            whole.call("scale", (long) MOST_FACTOR, 1L);
            other.call("copyFrom", whole.whole);
            whole.call("add", other.whole, i % 2 == 0 ? (long) MOST_FACTOR : (long) -MOST_FACTOR);
            whole.call("toDouble");
        }
        int[] limbs = (int[]) whole.field("limbs");
        Check.same("it has a bound", limbs.length <= 1500, true);
    }
}
