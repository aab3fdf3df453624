import java.lang.reflect.InvocationTargetException;
import java.lang.reflect.Method;
import java.nio.charset.StandardCharsets;
import java.util.ArrayList;
import java.util.Comparator;
import java.util.List;
import java.util.Random;

/**
 * Runs of calls with arguments drawn at random (always the same ones), each made on a LiftingSignal and on the Model:
 * the answers and the exceptions must be the same. This is for all promises at once, and for calls that no one thought of.
 */
public final class ModelTest {
    private static final int RUNS = 400;
    private static final int CALLS = 300;
    private static final String FREE = "free";
    private static final String THROWS = "throws.";
    private static final int[] ODD = {-1, -2, 2, 3, 5, 6, 9, 46, 47, 48, 49, 999, 1000, 1001, 9999, 10000, -9999, -10000,
        99999, -99999, 100000, -100000, Integer.MAX_VALUE, Integer.MIN_VALUE, 1 << 30};

    private final Random random;
    private final LiftingSignal signal = new LiftingSignal();
    private final Model model = new Model();
    private final StringBuilder story = new StringBuilder();
    private final List<Method> methods = new ArrayList<>();

    private ModelTest(long seed) {
        random = new Random(seed);
        for (Method method : LiftingSignal.class.getDeclaredMethods()) {
            if (java.lang.reflect.Modifier.isPublic(method.getModifiers())) {
                methods.add(method);
            }
        }
        methods.sort(Comparator.comparing(Method::getName));
    }

    public static void main(String[] args) {
        int runs = args.length > 0 ? Integer.parseInt(args[0]) : RUNS;
        int first = args.length > 1 ? Integer.parseInt(args[1]) : 0;
        for (int run = first; run < first + runs; run++) {
            new ModelTest(run).play(run);
        }
        Check.end();
    }

    private void play(int run) {
        int most = random.nextInt(4) == 0 ? 48 : 2 + random.nextInt(12);
        boolean isSame = run % 4 > 0 || isFarSame(random.nextInt(100));
        for (int call = 0; call < CALLS && isSame; call++) {
            isSame = run % 4 > 0 && call == 0 || random.nextInt(60) == 0 ? isTextSame(most) : isCallSame(most);
        }
        if (!isSame) {
            Check.fail("run " + run + ":" + story);
        }
    }

    /** Rounds of calls that make the values grow: by some three bits each, beyond what a long can hold after 30. */
    private boolean isFarSame(int rounds) {
        boolean isSame = typeSame("predict near;at 0 9999;at 5591 9999;at 5592 -9999;at 5593 9999;at 5594 -9999;at 7922 9999;");
        for (int round = 0; round < rounds && isSame; round++) {
            isSame = call("lift", 1) && call("lift", 2) && call("setPredict", 0) && call("setUpdate", false)
                    && call("lift", 3) && call("keepLargest", 0) && call("inverse", 46) && call("setUpdate", true)
                    && call("lift", 4) && call("lift", 1) && call("lift", 3) && call("setPredict", 1)
                    && call("lift", 2) && call("keepLargest", 0) && call("inverse", 46);
        }
        return isSame;
    }

    private boolean isCallSame(int most) {
        Method method = methods.get(random.nextInt(methods.size()));
        boolean isRare = method.getName().matches("load|append|truncate|reset|restore");
        if (isRare && random.nextInt(4) > 0) {
            method = methods.get(random.nextInt(methods.size()));
        }
        Class<?>[] types = method.getParameterTypes();
        Object[] arguments = new Object[types.length];
        for (int i = 0; i < types.length; i++) {
            arguments[i] = types[i] == boolean.class ? (Object) random.nextBoolean() : (Object) number(method.getName(), i, most);
        }
        return isSame(method, arguments);
    }

    private int number(String name, int place, int most) {
        if (random.nextInt(25) == 0) {
            return ODD[random.nextInt(ODD.length)];
        }
        switch (name) {
            case "append":
                return Check.four(" at 5 -;".getBytes(StandardCharsets.ISO_8859_1), random.nextInt(5));
            case "truncate":
                return random.nextInt(60);
            case "set":
                return place == 0 ? random.nextInt(most) : random.nextInt(200) - 100 << random.nextInt(7);
            case "setDetail":
                return place == 0 ? random.nextInt(most) : random.nextInt(200) - 100 << random.nextInt(10);
            case "noise":
                return place == 0 ? random.nextInt() : random.nextInt(1 << 1 + random.nextInt(9));
            case "threshold":
            case "errorWith":
            case "bestThreshold":
            case "quantize":
                return random.nextInt(1 << 1 + random.nextInt(12));
            case "valueAt":
                return random.nextInt(most * 8);
            case "forward":
            case "inverse":
                return 1 + random.nextInt(random.nextBoolean() ? 3 : 46);
            case "sample":
            case "step":
                return place == 0 ? random.nextInt(most) : random.nextInt(6);
            case "lift":
            case "neighbour":
            case "present":
            case "largest":
            case "keepLargest":
                return random.nextInt(most);
            default:
                return random.nextInt(name.equals("count") ? 9 : name.matches("mean|reason|save|restore") ? 2 : 3);
        }
    }

    private boolean isSame(Method method, Object... arguments) {
        story.append(' ').append(method.getName()).append(List.of(arguments));
        String got = answer(method, signal, arguments);
        String due;
        try {
            due = answer(Model.class.getMethod(method.getName(), method.getParameterTypes()), model, arguments);
        } catch (NoSuchMethodException none) {
            throw new IllegalStateException(none);
        }
        boolean isSame = due.equals(FREE) ? !got.startsWith(THROWS) : got.equals(due);
        if (!isSame) {
            story.append(" answered ").append(got).append(", due is ").append(due);
        }
        return isSame;
    }

    private static String answer(Method method, Object target, Object... arguments) {
        try {
            return String.valueOf(method.invoke(target, arguments));
        } catch (InvocationTargetException thrown) {
            if (thrown.getCause() instanceof Model.TooGreat) {
                return FREE;
            }
            return THROWS + thrown.getCause().getClass().getName();
        } catch (IllegalAccessException hidden) {
            throw new IllegalStateException(hidden);
        }
    }

    private boolean isTextSame(int most) {
        return typeSame(spoiled(text(most)));
    }

    private boolean typeSame(String typed) {
        byte[] text = typed.getBytes(StandardCharsets.ISO_8859_1);
        boolean isSame = call("truncate", 0);
        for (int from = 0; from < text.length && isSame; from += 20) {
            isSame = call("append", Check.four(text, from), Check.four(text, from + 4), Check.four(text, from + 8),
                    Check.four(text, from + 12), Check.four(text, from + 16));
        }
        return isSame && call("truncate", Math.min(text.length, 700)) && call("load") && call("errorCode") && call("errorPosition");
    }

    private boolean call(String name, Object... arguments) {
        for (Method method : methods) {
            if (method.getName().equals(name)) {
                return isSame(method, arguments);
            }
        }
        throw new IllegalStateException(name);
    }

    private String text(int most) {
        StringBuilder text = new StringBuilder();
        String[] settings = {"split span", "split dyadic", "split detail", "predict left", "predict near",
            "predict linear", "update none", "update keep", "least " + (2 + random.nextInt(4)), "least " + random.nextInt(60)};
        for (int i = random.nextInt(4); i > 0; i--) {
            text.append(settings[random.nextInt(settings.length)]).append(';').append(blank());
        }
        int number = most == 48 ? 40 + random.nextInt(11) : 2 + random.nextInt(most - 1);
        int gap = most == 48 ? 1 + random.nextInt(30) : 1 << 1 + random.nextInt(9);
        int position = random.nextInt(gap);
        for (int sample = 0; sample < number; sample++) {
            text.append("at").append(blank()).append(position);
            position += random.nextInt(200) == 0 ? 0 : 1 + random.nextInt(gap);
            text.append(random.nextBoolean() ? " " : "-").append(blank()).append(random.nextInt(1 << 1 + random.nextInt(13)));
            text.append(blank()).append(';');
        }
        return text.toString();
    }

    private String blank() {
        int drawn = random.nextInt(12);
        return drawn == 0 ? " " : drawn == 1 ? "\n" : "";
    }

    private String spoiled(String text) {
        if (random.nextInt(4) > 0) {
            return text;
        }
        StringBuilder spoiled = new StringBuilder(text);
        for (int i = random.nextInt(3); i >= 0 && spoiled.length() > 0; i--) {
            int at = random.nextInt(spoiled.length());
            char put = " ;-at0159z\n{/:`A\t\u0000\u00f1\u00e1".charAt(random.nextInt(20));
            switch (random.nextInt(4)) {
                case 0 -> spoiled.setCharAt(at, put);
                case 1 -> spoiled.insert(at, put);
                case 2 -> spoiled.deleteCharAt(at);
                default -> spoiled.setLength(at);
            }
        }
        return spoiled.toString();
    }
}
