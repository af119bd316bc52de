import java.lang.reflect.InvocationTargetException;
import java.lang.reflect.Method;
import java.lang.reflect.Modifier;
import java.util.ArrayList;
import java.util.Comparator;
import java.util.List;
import java.util.Random;
import java.util.Set;
import java.util.stream.Collectors;
import java.util.stream.IntStream;

/** Runs of 512 calls with the last digest(), the same on each machine, whose answers are held against those of ReferenceRadio. */
public final class RandomRunsTest {
    private static final int RUNS = 600;
    private static final int CALLS = 511;
    private static final Set<String> AGAINST_DRAINING = Set.of("charge", "undo", "recall");
    private static final Set<String> AGAINST_MIXES = Set.of("clearMixes", "removeMix", "undo", "recall");
    private static final String[] SIGNS = {"s", "t", "r", "c", "f", "l", ";", "=", "-", "0", "1", "2", "5", "9", "x"};

    public static void main(String[] args) throws IllegalAccessException {
        List<Method> calls = new ArrayList<>();
        for (Method call : PlaneServos.class.getDeclaredMethods()) {
            if (Modifier.isPublic(call.getModifiers())) {
                calls.add(call);
            }
        }
        calls.sort(Comparator.comparing(Method::getName));
        boolean isGood = true;
        for (int run = 0; run < RUNS && isGood; run++) {
            isGood = runIsGood(run, calls);
        }
        Checks.finish("RandomRunsTest");
    }

    private static boolean runIsGood(int run, List<Method> calls) throws IllegalAccessException {
        Random random = new Random(run);
        PlaneServos x = new PlaneServos();
        ReferenceRadio reference = new ReferenceRadio();
        StringBuilder told = new StringBuilder();
        String typed = "";
        for (int i = isDraining(run) ? drain(x, reference, random.nextInt(3000)) : 0; i < CALLS; i++) {
            Method call = chosen(calls, random, run);
            int[] numbers = numbers(call, random, run);
            if (typed.isEmpty() && random.nextInt(run % 2 == 0 ? 20 : 100) == 0) {
                typed = text(random);
                // A text that comes behind another one is seldom a program.
                call = random.nextInt(4) == 0 ? call : named(calls, "clearText");
                numbers = numbers(call, random, run);
            } else if (!typed.isEmpty()) {
                call = named(calls, "append");
                numbers = new int[] {typed.charAt(0)};
                typed = typed.substring(1);
                if (typed.isEmpty() && random.nextInt(3) > 0) {
                    call = named(calls, random.nextBoolean() ? "run" : "firstError");
                    numbers = new int[0];
                }
            }
            if (isDraining(run) && AGAINST_DRAINING.contains(call.getName()) && random.nextInt(20) > 0) {
                call = named(calls, "send");
                numbers = numbers(call, random, run);
            }
            String due = answerOf(reference, call, numbers);
            String got = answerOf(x, call, numbers);
            String line = call.getName() + IntStream.of(numbers).boxed().collect(Collectors.toList());
            told.append(line).append(" -> ").append(got).append('\n');
            if (!got.equals(due)) {
                Checks.fail("run " + run + ", call " + i + ":\n" + told + "due is " + due);
                return false;
            }
        }
        Checks.due("digest() after the run " + run, x.digest(), reference.call("digest"));
        return true;
    }

    /** In some runs few calls are left that would take mixes away, so that there are twelve of them now and then. */
    private static Method chosen(List<Method> calls, Random random, int run) {
        Method call = calls.get(random.nextInt(calls.size()));
        boolean isMixing = run % 4 == 3;
        return isMixing && AGAINST_MIXES.contains(call.getName()) ? named(calls, "addMix") : call;
    }

    /** Some runs begin with a battery that is nearly empty, and seldom charge it. */
    private static boolean isDraining(int run) {
        return run % 4 == 1;
    }

    private static int drain(PlaneServos x, ReferenceRadio reference, int most) {
        x.elevons(4, 5, 100);
        reference.call("elevons", 4, 5, 100);
        int calls = 1;
        while (reference.call("battery") > most && calls < 200) {
            int position = reference.call("position", 0) == 100 ? -100 : 100;
            x.move(0, position);
            reference.call("move", 0, position);
            x.send(50);
            reference.call("send", 50);
            calls += 2;
        }
        return calls;
    }

    private static Method named(List<Method> calls, String name) {
        return calls.stream().filter(call -> call.getName().equals(name)).findFirst().get();
    }

    private static String answerOf(ReferenceRadio reference, Method call, int[] numbers) {
        try {
            return "" + reference.call(call.getName(), numbers);
        } catch (IndexOutOfBoundsException | IllegalArgumentException | IllegalStateException e) {
            return e.getClass().getName();
        }
    }

    private static String answerOf(PlaneServos x, Method call, int[] numbers) throws IllegalAccessException {
        Object[] given = new Object[numbers.length];
        for (int i = 0; i < numbers.length; i++) {
            given[i] = call.getParameterTypes()[i] == boolean.class ? (Object) (numbers[i] == 1) : (Object) numbers[i];
        }
        try {
            Object answer = call.invoke(x, given);
            if (answer instanceof Boolean b) {
                return b ? "1" : "0";
            }
            return "" + (answer instanceof Double d ? Double.doubleToLongBits(d) : ((Number) answer).longValue());
        } catch (InvocationTargetException e) {
            return e.getCause().getClass().getName();
        }
    }

    /** Mostly numbers that the call takes, now and then one at the edge or beyond it. */
    private static int[] numbers(Method call, Random random, int run) {
        int[][] ranges = ranges(call.getName());
        int[] numbers = new int[call.getParameterCount()];
        for (int i = 0; i < numbers.length; i++) {
            int least = ranges[i][0];
            int most = ranges[i][1];
            int choice = random.nextInt(40);
            if (call.getParameterTypes()[i] == boolean.class) {
                numbers[i] = random.nextInt(2);
            } else if (choice == 0) {
                numbers[i] = random.nextBoolean() ? least - 1 : most + 1;
            } else if (choice == 1) {
                numbers[i] = random.nextInt();
            } else if (choice < 10) {
                numbers[i] = random.nextBoolean() ? least : most;
            } else {
                numbers[i] = least + random.nextInt(most - least + 1);
            }
        }
        if (run % 3 == 0 && call.getName().equals("setSpeed")) {
            // In some runs the servos are slow and mostly on their way.
            numbers[1] = 1 + random.nextInt(9);
        }
        return numbers;
    }

    private static int[][] ranges(String name) {
        switch (name) {
            case "move":
                return new int[][] {{0, 3}, {-100, 100}};
            case "setTrim":
                return new int[][] {{0, 3}, {-25, 25}};
            case "setRate":
                return new int[][] {{0, 3}, {0, 125}};
            case "setExpo":
                return new int[][] {{0, 3}, {0, 100}};
            case "position":
            case "trim":
            case "rate":
            case "expo":
            case "command":
            case "drivenBy":
                return new int[][] {{0, 3}};
            case "addMix":
                return new int[][] {{0, 9}, {0, 5}, {-150, 150}, {-50, 50}, {0, 2}};
            case "removeMix":
            case "mixSource":
            case "mixServo":
            case "mixValue":
            case "isActive":
                return new int[][] {{0, 11}};
            case "elevons":
                return new int[][] {{0, 5}, {0, 5}, {1, 150}};
            case "setNeutral":
                return new int[][] {{0, 5}, {-50, 50}};
            case "setLimits":
                return new int[][] {{0, 5}, {-150, 0}, {0, 150}};
            case "setSpeed":
                return new int[][] {{0, 5}, {1, 300}};
            case "setFailsafe":
                return new int[][] {{0, 5}, {0, 2}, {-150, 150}};
            case "send":
            case "lose":
            case "setDelay":
                return new int[][] {{1, 50}};
            case "aimIfMoved":
                return new int[][] {{0, 3}, {-100, 100}, {0, 5}};
            case "bestTrim":
                return new int[][] {{0, 3}, {0, 5}};
            case "append":
                return new int[][] {{33, 126}};
            case "store":
            case "recall":
                return new int[][] {{0, 1}};
            default:
                return new int[][] {{0, 5}};
        }
    }

    /** Mostly a program, of which now and then a sign is another one. */
    private static String text(Random random) {
        StringBuilder text = new StringBuilder();
        int parts = 1 + random.nextInt(8);
        for (int i = 0; i < parts; i++) {
            text.append(i == 0 ? "" : ";").append(part(random));
        }
        if (random.nextInt(3) == 0) {
            int at = random.nextInt(text.length());
            text.replace(at, at + random.nextInt(2), SIGNS[random.nextInt(SIGNS.length)]);
        }
        return text + ";";
    }

    private static String part(Random random) {
        switch (random.nextInt(6)) {
            case 0:
                return "s" + random.nextInt(4) + "=" + (random.nextInt(203) - 101);
            case 1:
                return "t" + random.nextInt(4) + "=" + (random.nextInt(53) - 26);
            case 2:
                return "r";
            case 3:
                return "c";
            case 4:
                return "f" + random.nextInt(52);
            default:
                return "l" + random.nextInt(52);
        }
    }
}
