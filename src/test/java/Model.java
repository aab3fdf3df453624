import java.math.BigInteger;
import java.util.ArrayList;
import java.util.Comparator;
import java.util.List;
import java.util.NoSuchElementException;
import java.util.regex.Matcher;
import java.util.regex.Pattern;
import java.util.stream.Collectors;
import java.util.stream.IntStream;

/** The document once more, word by word and without regard to cost, with numbers of any size. */
public final class Model {
    /** An answer that no long can tell: the document leaves open what is answered then. The call is made all the same. */
    static final class TooGreat extends RuntimeException {
        private static final long serialVersionUID = 1;
    }

    private record Spot(int position, int original) {
    }

    private record Held(int sample, BigInteger value, BigInteger weight) {
    }

    private record Lifting(int sample, int left, int right, BigInteger e, BigInteger f, BigInteger w, BigInteger s,
            int predict, boolean isKeep, BigInteger detail) {
        Lifting with(BigInteger other) {
            return new Lifting(sample, left, right, e, f, w, s, predict, isKeep, other);
        }
    }

    private record Wrong(int code, int position) {
    }

    private record Token(String kind, String text, int position) {
    }

    private static final Pattern TOKEN = Pattern.compile("[a-z]+|[0-9]+|[^ \n]", Pattern.DOTALL);

    private StringBuilder buffer = new StringBuilder();
    private int errorCode = 0;
    private int errorPosition = -1;
    private List<Spot> spots = List.of(new Spot(0, 0), new Spot(1, 0));
    private int least = 2;
    private State state = new State();
    private State[] saved = new State[2];
    private int[] reasons = {0, 0, -1};

    private final class State {
        List<Held> held = IntStream.range(0, spots.size()).mapToObj(this::atFirst).collect(Collectors.toList());
        List<Lifting> steps = new ArrayList<>();
        BigInteger drift = BigInteger.ZERO;
        int split = 0;
        int predict = 2;
        boolean isKeep = true;

        private Held atFirst(int i) {
            int from = spots.get(Math.max(i - 1, 0)).position;
            int to = spots.get(Math.min(i + 1, spots.size() - 1)).position;
            return new Held(i, big(spots.get(i).original), big(to - from));
        }

        State copy() {
            State copy = new State();
            copy.held = new ArrayList<>(held);
            copy.steps = new ArrayList<>(steps);
            copy.drift = drift;
            return copy.rules(split, predict, isKeep);
        }

        State rules(int newSplit, int newPredict, boolean newKeep) {
            split = newSplit;
            predict = newPredict;
            isKeep = newKeep;
            return this;
        }

        int place(int sample) {
            return IntStream.range(0, held.size()).filter(i -> held.get(i).sample == sample).findFirst().orElse(-1);
        }

        BigInteger integral() {
            return held.stream().map(h -> h.weight.multiply(h.value)).reduce(drift, BigInteger::add);
        }

        BigInteger weights() {
            return held.stream().map(Held::weight).reduce(BigInteger.ZERO, BigInteger::add);
        }

        BigInteger values() {
            return held.stream().map(Held::value).reduce(BigInteger.ZERO, BigInteger::add);
        }

        BigInteger detailAt(int place) {
            Held h = held.get(place);
            return h.value.subtract(prediction(predict, held.get(place - 1), h.sample, held.get(place + 1)));
        }

        BigInteger cost(int place) {
            int sample = held.get(place).sample;
            if (split == 0) {
                return big(at(held.get(place + 1).sample) - at(held.get(place - 1).sample));
            }
            if (split == 2) {
                return detailAt(place).abs();
            }
            int halvings = 0;
            for (int rest = sample; rest % 2 == 0; rest /= 2) {
                halvings++;
            }
            return big(halvings);
        }

        int next() {
            if (held.size() <= least) {
                return -1;
            }
            return IntStream.range(1, held.size() - 1).boxed().min(Comparator.comparing(this::cost))
                    .map(place -> held.get(place).sample).orElse(-1);
        }

        BigInteger lift(int sample) {
            int place = place(sample);
            Held a = held.get(place - 1);
            Held v = held.get(place);
            Held b = held.get(place + 1);
            int p = at(a.sample);
            int x = at(sample);
            int q = at(b.sample);
            BigInteger d = detailAt(place);
            BigInteger s = predict == 0 || predict == 1 && x - p <= q - x ? v.weight
                    : predict == 1 ? BigInteger.ZERO : floor(v.weight.multiply(big(q - x)), big(q - p));
            Lifting step = new Lifting(sample, a.sample, b.sample, a.weight, b.weight, v.weight, s, predict, isKeep, d);
            BigInteger before = integral();
            held.set(place - 1, new Held(a.sample, a.value.add(added(step, true)), a.weight.add(s)));
            held.set(place + 1, new Held(b.sample, b.value.add(added(step, false)), b.weight.add(v.weight).subtract(s)));
            held.remove(place);
            drift = drift.add(before.subtract(integral()));
            steps.add(step);
            return d;
        }

        void invert() {
            Lifting step = steps.remove(steps.size() - 1);
            int left = place(step.left);
            BigInteger before = integral();
            Held a = new Held(step.left, held.get(left).value.subtract(added(step, true)), step.e);
            Held b = new Held(step.right, held.get(left + 1).value.subtract(added(step, false)), step.f);
            held.set(left, a);
            held.set(left + 1, b);
            BigInteger value = prediction(step.predict, a, step.sample, b).add(step.detail);
            held.add(left + 1, new Held(step.sample, value, step.w));
            drift = drift.add(before.subtract(integral()));
        }

        int forward(int most) {
            int done = 0;
            for (int sample = next(); done < most && sample >= 0; sample = next()) {
                lift(sample);
                done++;
            }
            return done;
        }

        List<BigInteger> differences() {
            State back = copy();
            while (!back.steps.isEmpty()) {
                back.invert();
            }
            return back.held.stream().map(h -> h.value.subtract(big(spots.get(h.sample).original)).abs())
                    .collect(Collectors.toList());
        }

        List<Integer> bySize() {
            return IntStream.range(0, steps.size()).boxed()
                    .sorted(Comparator.comparing((Integer i) -> steps.get(i).detail.abs().negate()))
                    .collect(Collectors.toList());
        }

        State cut(int threshold, boolean isSoft) {
            steps.replaceAll(step -> step.with(cut(step.detail, big(threshold), isSoft)));
            return this;
        }

        private BigInteger cut(BigInteger detail, BigInteger threshold, boolean isSoft) {
            if (detail.abs().compareTo(threshold) < 0) {
                return BigInteger.ZERO;
            }
            return isSoft ? detail.abs().subtract(threshold).multiply(big(detail.signum())) : detail;
        }

        int bits() {
            return steps.stream().mapToInt(step -> 1 + step.detail.abs().bitLength()).sum();
        }
    }

    private static BigInteger big(long number) {
        return BigInteger.valueOf(number);
    }

    private static long told(BigInteger number) {
        if (number.bitLength() > 63) {
            throw new TooGreat();
        }
        return number.longValue();
    }

    private static BigInteger floor(BigInteger a, BigInteger b) {
        BigInteger[] parts = a.divideAndRemainder(b);
        return parts[1].signum() < 0 ? parts[0].subtract(BigInteger.ONE) : parts[0];
    }

    private int at(int sample) {
        return spots.get(sample).position;
    }

    private static BigInteger added(Lifting step, boolean isLeft) {
        if (!step.isKeep) {
            return BigInteger.ZERO;
        }
        BigInteger e = step.e.add(step.s);
        BigInteger f = step.f.add(step.w.subtract(step.s));
        BigInteger squares = e.multiply(e).add(f.multiply(f));
        return floor(step.w.multiply(step.detail).multiply(isLeft ? e : f), squares);
    }

    private BigInteger line(Held a, int x, Held b) {
        BigInteger rise = b.value.subtract(a.value).multiply(big(x - at(a.sample)));
        return a.value.add(floor(rise, big(at(b.sample) - at(a.sample))));
    }

    private BigInteger prediction(int rule, Held a, int sample, Held b) {
        int x = at(sample);
        return rule == 0 ? a.value : rule == 2 ? line(a, x, b) : x - at(a.sample) <= at(b.sample) - x ? a.value : b.value;
    }

    private static void index(int index, int size) {
        if (index < 0 || index >= size) {
            throw new IndexOutOfBoundsException();
        }
    }

    private static void range(int number, int low, int high) {
        if (number < low || number > high) {
            throw new IllegalArgumentException();
        }
    }

    private void refuseIf(boolean isSo, int code, int cause, int sample) {
        if (isSo) {
            reasons = new int[] {code, cause, sample};
            throw new IllegalStateException();
        }
    }

    // ---- the text

    public int append(int a, int b, int c, int d, int e) {
        if (buffer.length() > 680) {
            return -1;
        }
        for (int four : new int[] {a, b, c, d, e}) {
            for (int shift = 24; shift >= 0; shift -= 8) {
                buffer.append((char) (four >>> shift & 255));
            }
        }
        return buffer.length();
    }

    public int truncate(int length) {
        index(length, buffer.length() + 1);
        buffer.setLength(length);
        return length;
    }

    public int load() {
        String text = buffer.toString();
        buffer.setLength(0);
        List<Token> tokens = new ArrayList<>();
        for (Matcher matcher = TOKEN.matcher(text); matcher.find();) {
            String found = matcher.group();
            String kind = found.matches("[a-z]+|[;-]") ? found : found.matches("[0-9]{1,4}") ? "number" : "wrong";
            tokens.add(new Token(kind, found, matcher.start()));
        }
        tokens.add(new Token("end", "", text.length()));
        List<String> settings = new ArrayList<>();
        List<Spot> read = new ArrayList<>();
        Wrong wrong = parse(tokens, settings, read);
        errorCode = wrong == null ? 0 : wrong.code;
        errorPosition = wrong == null ? -1 : wrong.position;
        if (wrong != null) {
            throw new IllegalArgumentException();
        }
        spots = read;
        least = 2;
        state = new State();
        saved = new State[2];
        for (int i = 0; i < settings.size(); i += 2) {
            apply(settings.get(i), settings.get(i + 1));
        }
        return spots.size();
    }

    private void apply(String setting, String choice) {
        switch (setting) {
            case "split" -> state.split = List.of("span", "dyadic", "detail").indexOf(choice);
            case "predict" -> state.predict = List.of("left", "near", "linear").indexOf(choice);
            case "update" -> state.isKeep = choice.equals("keep");
            default -> least = Integer.parseInt(choice);
        }
    }

    /** Walks from token to token with the set of what may stand there; null if the text is right. */
    private static Wrong parse(List<Token> tokens, List<String> settings, List<Spot> read) {
        String may = " split predict update least at ";
        String behind = "";
        int position = 0;
        int sign = 1;
        for (Token token : tokens) {
            String kind = token.kind;
            boolean isEnd = kind.equals("end");
            if (!may.contains(" " + kind + " ")) {
                return new Wrong(1, token.position);
            }
            int number = kind.equals("number") ? Integer.parseInt(token.text) : 0;
            if (isEnd) {
                return null;
            } else if (kind.equals(";")) {
                may = read.isEmpty() ? " split predict update least at " : read.size() < 2 ? " at " : " at end ";
            } else if (" split predict update least ".contains(" " + kind + " ")) {
                if (settings.contains(kind)) {
                    return new Wrong(3, token.position);
                }
                settings.add(kind);
                may = switch (kind) {
                    case "split" -> " span dyadic detail ";
                    case "predict" -> " left near linear ";
                    case "update" -> " none keep ";
                    default -> " number ";
                };
                behind = "setting";
            } else if (kind.equals("at")) {
                if (read.size() == 48) {
                    return new Wrong(4, token.position);
                }
                may = " number ";
                behind = "position";
            } else if (behind.equals("setting")) {
                if (kind.equals("number") && (number < 2 || number > 48)) {
                    return new Wrong(2, token.position);
                }
                settings.add(token.text);
                may = " ; ";
            } else if (behind.equals("position")) {
                if (!read.isEmpty() && number <= read.get(read.size() - 1).position) {
                    return new Wrong(2, token.position);
                }
                position = number;
                sign = 1;
                may = " number - ";
                behind = "value";
            } else if (kind.equals("-")) {
                sign = -1;
                may = " number ";
            } else {
                read.add(new Spot(position, sign * number));
                may = " ; ";
            }
        }
        throw new AssertionError("the tokens have no end");
    }

    public int errorCode() {
        return errorCode;
    }

    public int errorPosition() {
        return errorPosition;
    }

    // ---- reports

    public int count(int what) {
        range(what, 0, 8);
        int zeros = (int) state.steps.stream().filter(step -> step.detail.signum() == 0).count();
        int[] all = {spots.size(), state.held.size(), state.steps.size(), zeros, state.split, state.predict,
            state.isKeep ? 1 : 0, least, state.weights().intValueExact()};
        return all[what];
    }

    public long sample(int sample, int what) {
        index(sample, spots.size());
        range(what, 0, 5);
        int place = state.place(sample);
        int step = IntStream.range(0, state.steps.size()).filter(i -> state.steps.get(i).sample == sample).findFirst()
                .orElse(-1);
        if (what < 2) {
            return what == 0 ? at(sample) : spots.get(sample).original;
        }
        if (what == 2) {
            return place < 0 ? 0 : 1;
        }
        if (what == 3) {
            return place < 0 ? -1 : told(state.held.get(place).value);
        }
        return what == 5 ? step : told(place < 0 ? state.steps.get(step).w : state.held.get(place).weight);
    }

    public int present(int index) {
        index(index, state.held.size());
        return state.held.get(index).sample;
    }

    public int neighbour(int sample, boolean isRight) {
        index(sample, spots.size());
        IntStream all = state.held.stream().mapToInt(Held::sample);
        return isRight ? all.filter(i -> i > sample).min().orElse(-1) : all.filter(i -> i < sample).max().orElse(-1);
    }

    public long step(int step, int what) {
        index(step, state.steps.size());
        range(what, 0, 5);
        Lifting kept = state.steps.get(step);
        return told(List.of(big(kept.sample), big(kept.left), big(kept.right), kept.detail, kept.w, kept.s).get(what));
    }

    public long valueAt(int position) {
        List<Held> held = state.held;
        for (int place = 1; place < held.size(); place++) {
            if (position >= at(held.get(place - 1).sample) && position <= at(held.get(place).sample)) {
                return told(line(held.get(place - 1), position, held.get(place)));
            }
        }
        throw new IndexOutOfBoundsException();
    }

    public long integral() {
        return told(state.integral());
    }

    public long drift() {
        return told(state.drift);
    }

    public long mean(int part) {
        range(part, 0, 1);
        BigInteger divisor = state.integral().gcd(state.weights());
        return told((part == 0 ? state.integral() : state.weights()).divide(divisor));
    }

    public double plainMean() {
        return state.values().doubleValue() / state.held.size();
    }

    public long energy() {
        return told(state.steps.stream().map(step -> step.w.multiply(step.detail.pow(2))).reduce(BigInteger.ZERO, BigInteger::add));
    }

    public int bits() {
        return state.bits();
    }

    public int largest(int index) {
        index(index, state.steps.size());
        return state.bySize().get(index);
    }

    public int next() {
        if (state.next() < 0) {
            throw new NoSuchElementException();
        }
        return state.next();
    }

    // ---- settings and samples

    public int setSplit(int split) {
        range(split, 0, 2);
        int previous = state.split;
        state.split = split;
        return previous;
    }

    public int setPredict(int predict) {
        range(predict, 0, 2);
        int previous = state.predict;
        state.predict = predict;
        return previous;
    }

    public boolean setUpdate(boolean isKeep) {
        boolean previous = state.isKeep;
        state.isKeep = isKeep;
        return previous;
    }

    public long set(int sample, int value) {
        index(sample, spots.size());
        range(value, -9999, 9999);
        int place = state.place(sample);
        refuseIf(place < 0, 6, 4, sample);
        Held previous = state.held.get(place);
        state.held.set(place, new Held(sample, big(value), previous.weight));
        return told(previous.value);
    }

    public long noise(int seed, int level) {
        range(level, 0, 999);
        refuseIf(!state.steps.isEmpty(), 7, 0, -1);
        int x = seed;
        for (int sample = 0; sample < spots.size(); sample++) {
            x = x * 1103515245 + 12345;
            Held h = state.held.get(sample);
            state.held.set(sample, new Held(sample, h.value.add(big((x >>> 16) % (2 * level + 1) - level)), h.weight));
        }
        return told(state.values());
    }

    public int reset() {
        int steps = state.steps.size();
        state = new State().rules(state.split, state.predict, state.isKeep);
        return steps;
    }

    // ---- steps

    public int forward(int steps) {
        range(steps, 1, 46);
        refuseIf(state.next() < 0, 1, 0, -1);
        return state.forward(steps);
    }

    public long lift(int sample) {
        index(sample, spots.size());
        refuseIf(state.place(sample) < 0, 3, 4, sample);
        refuseIf(sample == 0 || sample == spots.size() - 1, 3, 5, sample);
        return told(state.lift(sample));
    }

    public int inverse(int steps) {
        range(steps, 1, 46);
        refuseIf(state.steps.isEmpty(), 2, 0, -1);
        int done = Math.min(steps, state.steps.size());
        for (int i = 0; i < done; i++) {
            state.invert();
        }
        return done;
    }

    // ---- details

    public long setDetail(int step, int detail) {
        index(step, state.steps.size());
        range(detail, -99999, 99999);
        return told(state.steps.set(step, state.steps.get(step).with(big(detail))).detail);
    }

    public int threshold(int threshold, boolean isSoft) {
        range(threshold, 0, 9999);
        state.cut(threshold, isSoft);
        return count(3);
    }

    public long quantize(int quantum) {
        range(quantum, 1, 9999);
        BigInteger changes = BigInteger.ZERO;
        for (int i = 0; i < state.steps.size(); i++) {
            BigInteger d = state.steps.get(i).detail;
            BigInteger low = floor(d, big(quantum)).multiply(big(quantum));
            BigInteger high = low.add(big(quantum));
            int nearer = d.subtract(low).compareTo(high.subtract(d));
            BigInteger chosen = nearer < 0 ? low : nearer > 0 ? high : low.abs().min(high.abs()).equals(low.abs()) ? low : high;
            state.steps.set(i, state.steps.get(i).with(chosen));
            changes = changes.add(chosen.subtract(d).abs());
        }
        return told(changes);
    }

    public long keepLargest(int number) {
        range(number, 0, 46);
        List<Integer> order = state.bySize();
        BigInteger greatest = BigInteger.ZERO;
        for (int i = number; i < order.size(); i++) {
            Lifting step = state.steps.get(order.get(i));
            greatest = greatest.max(step.detail.abs());
            state.steps.set(order.get(i), step.with(BigInteger.ZERO));
        }
        return told(greatest);
    }

    // ---- what it costs

    public long error(int what) {
        range(what, 0, 2);
        List<BigInteger> all = state.differences();
        if (what == 2) {
            return all.stream().filter(difference -> difference.signum() != 0).count();
        }
        return told(all.stream().reduce(BigInteger.ZERO, what == 0 ? BigInteger::max : BigInteger::add));
    }

    public long errorWith(int threshold, boolean isSoft) {
        range(threshold, 0, 9999);
        return told(greatestDifference(threshold, isSoft));
    }

    private BigInteger greatestDifference(int threshold, boolean isSoft) {
        return state.copy().cut(threshold, isSoft).differences().stream().reduce(BigInteger.ZERO, BigInteger::max);
    }

    public int bestThreshold(int error) {
        range(error, 0, 99999);
        for (int threshold = 1000; threshold >= 0; threshold--) {
            if (greatestDifference(threshold, false).compareTo(big(error)) <= 0) {
                return threshold;
            }
        }
        throw new NoSuchElementException();
    }

    public int bitsBy(int split, int predict) {
        range(split, 0, 2);
        range(predict, 0, 2);
        State trial = new State().rules(split, predict, state.isKeep);
        trial.forward(46);
        return trial.bits();
    }

    public int bestScheme() {
        return IntStream.range(0, 9).boxed().min(Comparator.comparing(i -> bitsBy(i / 3, i % 3))).orElseThrow();
    }

    // ---- reasons

    public int reason(int level) {
        range(level, 0, 1);
        return reasons[level];
    }

    public int reasonSample() {
        return reasons[2];
    }

    // ---- saved states

    public void save(int slot) {
        index(slot, 2);
        saved[slot] = state.copy();
    }

    public void restore(int slot) {
        index(slot, 2);
        if (saved[slot] == null) {
            throw new NoSuchElementException();
        }
        state = saved[slot].copy();
    }
}
