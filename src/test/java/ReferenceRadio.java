import java.util.ArrayDeque;
import java.util.ArrayList;
import java.util.Arrays;
import java.util.Comparator;
import java.util.List;
import java.util.regex.Matcher;
import java.util.regex.Pattern;
import java.util.stream.Collectors;
import java.util.stream.IntStream;

/** The document written down a second time, plainly and slowly, for RandomRunsTest to hold the class against. */
final class ReferenceRadio {
    private static final Pattern COMMAND = command();
    private static final Pattern PROGRAM = Pattern.compile("(?:" + COMMAND + ")(?:;(?:" + COMMAND + "))*");

    private record Mix(int source, int servo, int share, int offset, int condition) {
    }

    /** Numbers by name, as "position 3" or "battery"; what is not there is 0. */
    private static final class State {
        final java.util.TreeMap<String, Integer> numbers = new java.util.TreeMap<>();
        List<Mix> mixes = new ArrayList<>();

        State copy() {
            State other = new State();
            other.numbers.putAll(numbers);
            other.mixes = new ArrayList<>(mixes);
            return other;
        }
    }

    private State state = new State();
    private final ArrayDeque<State> saved = new ArrayDeque<>();
    private final State[] memories = new State[2];
    private String buffer = "";

    ReferenceRadio() {
        put("high", 1);
        for (int stick = 0; stick < 4; stick++) {
            put("rate0 " + stick, 100);
            put("rate1 " + stick, 100);
            state.mixes.add(new Mix(stick, stick, 100, 0, 0));
        }
        for (int servo = 0; servo < 6; servo++) {
            put("low " + servo, -100);
            put("top " + servo, 100);
            put("speed " + servo, 300);
        }
        put("delay", 5);
        put("battery", 20000);
    }

    private static Pattern command() {
        String positions = IntStream.rangeClosed(-100, 100).mapToObj(i -> "" + i).collect(Collectors.joining("|"));
        String trims = IntStream.rangeClosed(-25, 25).mapToObj(i -> "" + i).collect(Collectors.joining("|"));
        String frames = IntStream.rangeClosed(1, 50).mapToObj(i -> "" + i).collect(Collectors.joining("|"));
        return Pattern.compile("s[0-3]=(?:" + positions + ")|t[0-3]=(?:" + trims + ")|r|c|[fl](?:" + frames + ")");
    }

    private int get(String name) {
        return state.numbers.getOrDefault(name, 0);
    }

    private int put(String name, int value) {
        Integer before = state.numbers.put(name, value);
        return before == null ? 0 : before;
    }

    private static void index(boolean isThere) {
        if (!isThere) {
            throw new IndexOutOfBoundsException();
        }
    }

    private static void argument(boolean isRight) {
        if (!isRight) {
            throw new IllegalArgumentException();
        }
    }

    private static void allowed(boolean isAllowed) {
        if (!isAllowed) {
            throw new IllegalStateException();
        }
    }

    private static boolean in(int value, int least, int most) {
        return least <= value && value <= most;
    }

    private static long bit(boolean value) {
        return value ? 1 : 0;
    }

    private void save() {
        saved.addLast(state.copy());
        if (saved.size() > 6) {
            saved.removeFirst();
        }
    }

    private int command(int stick) {
        if (stick == 2 && get("cut") == 1) {
            return -100;
        }
        int x = get("position " + stick);
        int e = get("expo " + stick);
        int curved = ((100 - e) * x + e * (x * x * x / 10000)) / 100;
        return curved * get("rate" + get("high") + " " + stick) / 100 + get("trim" + get("high") + " " + stick);
    }

    private boolean active(Mix mix) {
        return mix.condition == 0 || (mix.condition == 1 && get("high") == 0)
            || (mix.condition == 2 && get("high") == 1);
    }

    private int value(Mix mix) {
        int source = mix.source < 4 ? command(mix.source) : demand(mix.source - 4);
        return active(mix) ? source * mix.share / 100 + mix.offset : 0;
    }

    private int demand(int servo) {
        int sum = state.mixes.stream().filter(mix -> mix.servo == servo).mapToInt(this::value).sum();
        return sum < -300 ? -300 : sum > 300 ? 300 : sum;
    }

    private int rawAim(int servo) {
        int demand = demand(servo);
        return get("neutral " + servo) + (get("reversed " + servo) == 1 ? -demand : demand);
    }

    private int limited(int servo, int value) {
        return value < get("low " + servo) ? get("low " + servo) : value > get("top " + servo) ? get("top " + servo)
            : value;
    }

    private int aim(int servo) {
        return limited(servo, rawAim(servo));
    }

    private boolean drives(int stick, int servo) {
        return state.mixes.stream().anyMatch(mix -> mix.servo == servo && active(mix)
            && (mix.source == stick || (mix.source >= 4 && drives(stick, mix.source - 4))));
    }

    private int transmit(int count, boolean isGood) {
        int sum = 0;
        for (int i = 0; i < count; i++) {
            sum += frame(isGood);
        }
        return sum;
    }

    private int frame(boolean isGood) {
        boolean isDead = get("battery") == 0;
        boolean isReceived = isGood && !isDead;
        put("frames", get("frames") + 1);
        put("dead", get("dead") + (isDead ? 1 : 0));
        put("lost", get("lost") + (isReceived ? 0 : 1));
        put("row", isReceived ? 0 : get("row") + 1);
        put("latestLost", isReceived ? 0 : 1);
        for (int servo = 0; servo < 6 && isReceived; servo++) {
            put("target " + servo, aim(servo));
        }
        boolean isOn = get("row") >= get("delay");
        for (int servo = 0; servo < 6 && isOn; servo++) {
            if (get("mode " + servo) == 1) {
                put("target " + servo, limited(servo, get("preset " + servo)));
            }
        }
        if (isOn && get("on") == 0) {
            put("failsafes", get("failsafes") + 1);
        }
        put("on", isOn ? 1 : 0);
        put("battery", isDead ? 0 : get("battery") - 1);
        int sum = 0;
        for (int servo = 0; servo < 6; servo++) {
            sum += isOn && get("mode " + servo) == 2 ? 0 : move(servo);
        }
        return sum;
    }

    private int move(int servo) {
        int way = get("target " + servo) - get("at " + servo);
        int distance = IntStream.of(Math.abs(way), get("speed " + servo), get("battery")).min().getAsInt();
        put("at " + servo, get("at " + servo) + Integer.signum(way) * distance);
        put("wear " + servo, get("wear " + servo) + distance);
        put("battery", get("battery") - distance);
        return distance;
    }

    private int bestTrim(int stick, int servo) {
        State before = state;
        List<Integer> trims = IntStream.rangeClosed(-25, 25).boxed().collect(Collectors.toList());
        Comparator<Integer> best = Comparator.comparingInt(trim -> Math.abs(aimWith("trim" + before.numbers.get("high")
            + " " + stick, trim, servo)));
        best = best.thenComparingInt(Math::abs).thenComparingInt(trim -> -trim);
        return trims.stream().min(best).get() + 100;
    }

    private int aimWith(String name, int value, int servo) {
        State before = state;
        state = before.copy();
        put(name, value);
        int aim = aim(servo);
        state = before;
        return aim;
    }

    private int framesToAim(int servo) {
        int at = get("at " + servo);
        int frames = 0;
        while (at != aim(servo)) {
            int way = aim(servo) - at;
            at += Integer.signum(way) * Math.min(Math.abs(way), get("speed " + servo));
            frames++;
        }
        return frames;
    }

    private int reason(int servo) {
        if (get("at " + servo) == aim(servo)) {
            return 0;
        }
        return get("battery") == 0 ? 1 : get("on") == 1 ? 2 : get("latestLost") == 1 ? 3 : 4;
    }

    private int mostWorn() {
        int most = IntStream.range(0, 6).map(servo -> get("wear " + servo)).max().getAsInt();
        return most == 0 ? -1 : IntStream.range(0, 6).filter(servo -> get("wear " + servo) == most).min().getAsInt();
    }

    private int firstError() {
        for (int length = 1; length <= buffer.length(); length++) {
            Matcher matcher = PROGRAM.matcher(buffer.substring(0, length));
            if (!matcher.matches() && !matcher.hitEnd()) {
                return length - 1;
            }
        }
        return buffer.length();
    }

    private int run() {
        argument(PROGRAM.matcher(buffer).matches());
        save();
        int sum = 0;
        for (String part : buffer.split(";")) {
            char letter = part.charAt(0);
            if (letter == 's') {
                put("position " + part.charAt(1), Integer.parseInt(part.substring(3)));
            } else if (letter == 't') {
                put("trim" + get("high") + " " + part.charAt(1), Integer.parseInt(part.substring(3)));
            } else if (letter == 'r') {
                put("high", 1 - get("high"));
            } else if (letter == 'c') {
                put("cut", 1 - get("cut"));
            } else {
                sum += transmit(Integer.parseInt(part.substring(1)), letter == 'f');
            }
        }
        buffer = "";
        return sum;
    }

    private long digest() {
        List<Integer> values = new ArrayList<>();
        for (int stick = 0; stick < 4; stick++) {
            values.addAll(List.of(get("position " + stick), get("expo " + stick),
                get("rate" + get("high") + " " + stick), get("trim" + get("high") + " " + stick), command(stick)));
        }
        values.addAll(List.of(get("high"), get("cut"), state.mixes.size()));
        for (Mix mix : state.mixes) {
            values.addAll(List.of(mix.source, mix.servo, value(mix)));
        }
        for (int servo = 0; servo < 6; servo++) {
            values.addAll(List.of(demand(servo), aim(servo), get("target " + servo), get("at " + servo),
                get("wear " + servo)));
        }
        values.addAll(List.of(get("battery"), get("charged"), get("frames"), get("lost"), get("dead"), get("row"),
            get("failsafes")));
        long hash = 4366;
        for (int value : values) {
            hash = 31 * hash + value;
        }
        return hash;
    }

    private long sets(String name, int value) {
        save();
        return put(name, value);
    }

    /** Makes the call of this name; a boolean counts 1 or 0, a double is told by its bits. */
    long call(String name, int... a) {
        List<String> ofStick = Arrays.asList("move", "position", "setTrim", "trim", "setRate", "rate", "setExpo",
            "expo", "command", "aimIfMoved", "drivenBy", "bestTrim");
        List<String> ofServo = Arrays.asList("clearMixes", "reverse", "setNeutral", "setLimits", "setSpeed",
            "setFailsafe", "demand", "aim", "excess", "target", "servoPosition", "wear", "reason", "framesToAim");
        List<String> ofMix = Arrays.asList("removeMix", "mixSource", "mixServo", "mixValue", "isActive");
        if (ofStick.contains(name)) {
            index(in(a[0], 0, 3));
            return stickCall(name, a);
        }
        if (ofServo.contains(name)) {
            index(in(a[0], 0, 5));
            return servoCall(name, a);
        }
        if (ofMix.contains(name)) {
            index(in(a[0], 0, state.mixes.size() - 1));
            return mixCall(name, a[0]);
        }
        return otherCall(name, a);
    }

    private long stickCall(String name, int[] a) {
        String high = get("high") + " " + a[0];
        switch (name) {
            case "move":
                argument(in(a[1], -100, 100));
                return sets("position " + a[0], a[1]);
            case "position":
                return get("position " + a[0]);
            case "setTrim":
                argument(in(a[1], -25, 25));
                return sets("trim" + high, a[1]);
            case "trim":
                return get("trim" + high);
            case "setRate":
                argument(in(a[1], 0, 125));
                return sets("rate" + high, a[1]);
            case "rate":
                return get("rate" + high);
            case "setExpo":
                argument(in(a[1], 0, 100));
                return sets("expo " + a[0], a[1]);
            case "expo":
                return get("expo " + a[0]);
            case "command":
                return command(a[0]);
            case "aimIfMoved":
                index(in(a[2], 0, 5));
                argument(in(a[1], -100, 100));
                return aimWith("position " + a[0], a[1], a[2]);
            case "drivenBy":
                return IntStream.range(0, 6).filter(servo -> drives(a[0], servo)).map(servo -> 1 << servo).sum();
            default:
                index(in(a[1], 0, 5));
                return bestTrim(a[0], a[1]);
        }
    }

    private long servoCall(String name, int[] a) {
        int servo = a[0];
        switch (name) {
            case "clearMixes":
                save();
                int before = state.mixes.size();
                state.mixes.removeIf(mix -> mix.servo == servo);
                return before - state.mixes.size();
            case "reverse":
                return 1 - sets("reversed " + servo, 1 - get("reversed " + servo));
            case "setNeutral":
                argument(in(a[1], -50, 50));
                return sets("neutral " + servo, a[1]);
            case "setLimits":
                argument(in(a[1], -150, 0) && in(a[2], 0, 150));
                long low = sets("low " + servo, a[1]);
                return put("top " + servo, a[2]) - low;
            case "setSpeed":
                argument(in(a[1], 1, 300));
                return sets("speed " + servo, a[1]);
            case "setFailsafe":
                argument(in(a[1], 0, 2) && in(a[2], -150, 150));
                long mode = sets("mode " + servo, a[1]);
                put("preset " + servo, a[2]);
                return mode;
            case "demand":
                return demand(servo);
            case "aim":
                return aim(servo);
            case "excess":
                return rawAim(servo) - aim(servo);
            case "target":
                return get("target " + servo);
            case "servoPosition":
                return get("at " + servo);
            case "wear":
                return get("wear " + servo);
            case "reason":
                return reason(servo);
            default:
                return framesToAim(servo);
        }
    }

    private long mixCall(String name, int number) {
        Mix mix = state.mixes.get(number);
        switch (name) {
            case "removeMix":
                save();
                state.mixes.remove(number);
                return state.mixes.size();
            case "mixSource":
                return mix.source;
            case "mixServo":
                return mix.servo;
            case "mixValue":
                return value(mix);
            default:
                return bit(active(mix));
        }
    }

    private long otherCall(String name, int[] a) {
        switch (name) {
            case "switchRates":
                return 1 - sets("high", 1 - get("high"));
            case "cutThrottle":
                return sets("cut", a[0]);
            case "addMix":
                index(in(a[1], 0, 5));
                argument(in(a[0], 0, 9) && in(a[2], -150, 150) && a[2] != 0 && in(a[3], -50, 50) && in(a[4], 0, 2)
                    && (a[0] < 4 || a[0] - 4 < a[1]));
                allowed(state.mixes.size() < 12);
                save();
                state.mixes.add(new Mix(a[0], a[1], a[2], a[3], a[4]));
                return state.mixes.size() - 1;
            case "elevons":
                index(in(a[0], 0, 5) && in(a[1], 0, 5));
                argument(a[0] != a[1] && in(a[2], 1, 150));
                allowed(state.mixes.size() <= 8);
                save();
                state.mixes.addAll(List.of(new Mix(0, a[0], a[2], 0, 0), new Mix(1, a[0], a[2], 0, 0),
                    new Mix(0, a[1], -a[2], 0, 0), new Mix(1, a[1], a[2], 0, 0)));
                return state.mixes.size();
            case "send":
            case "lose":
                argument(in(a[0], 1, 50));
                save();
                return transmit(a[0], name.equals("send"));
            case "setDelay":
                argument(in(a[0], 1, 50));
                return sets("delay", a[0]);
            case "charge":
                save();
                int added = 20000 - put("battery", 20000);
                put("charged", get("charged") + added);
                return added;
            default:
                return plainCall(name, a);
        }
    }

    private long plainCall(String name, int[] a) {
        switch (name) {
            case "isHigh":
                return get("high");
            case "isCut":
                return get("cut");
            case "mixes":
                return state.mixes.size();
            case "battery":
            case "charged":
            case "frames":
            case "failsafes":
                return get(name);
            case "lostFrames":
                return get("lost");
            case "deadFrames":
                return get("dead");
            case "lostInRow":
                return get("row");
            case "isFailsafe":
                return get("on");
            case "mostWorn":
                return mostWorn();
            case "linkQuality":
                double all = get("frames");
                return Double.doubleToLongBits(all == 0 ? 1.0 : (all - get("lost")) / all);
            case "digest":
                return digest();
            default:
                return textOrMemoryCall(name, a);
        }
    }

    private long textOrMemoryCall(String name, int[] a) {
        switch (name) {
            case "append":
                argument(in(a[0], 33, 126));
                allowed(buffer.length() < 60);
                buffer += (char) a[0];
                return buffer.length();
            case "clearText":
                int length = buffer.length();
                buffer = "";
                return length;
            case "firstError":
                return firstError();
            case "run":
                return run();
            case "undo":
                allowed(!saved.isEmpty());
                state = saved.removeLast();
                return saved.size();
            case "savedStates":
                return saved.size();
            case "store":
                argument(in(a[0], 0, 1));
                memories[a[0]] = state.copy();
                return state.mixes.size();
            case "recall":
                argument(in(a[0], 0, 1));
                allowed(memories[a[0]] != null);
                save();
                state = memories[a[0]].copy();
                return state.mixes.size();
            default:
                throw new UnsupportedOperationException(name);
        }
    }
}
