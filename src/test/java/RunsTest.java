import java.lang.reflect.InvocationTargetException;
import java.lang.reflect.Method;
import java.util.Arrays;
import java.util.HashMap;
import java.util.Map;
import java.util.Random;

/** Long runs of drawn calls (the same ones each time), each answer beside that of the model. */
public final class RunsTest {
    private static final Due DUE = new Due("RunsTest");
    private static final int RUNS = 400;
    private static final int CALLS = 512;

    private final Random random;
    private final AsteroTone tone = new AsteroTone();
    private final Model model = new Model();
    private final int run;
    private int stars = 0;
    private int claims = 0;
    private static final Map<String, Integer> ANSWERED = new HashMap<>();

    private RunsTest(int run) {
        this.run = run;
        random = new Random(run);
    }

    public static void main(String[] args) {
        for (int run = 0; run < RUNS; run++) {
            new RunsTest(run).play();
        }
        for (String call : METHODS.keySet()) {
            DUE.holds(call + " was answered in many runs", ANSWERED.getOrDefault(call, 0) > 100);
        }
        DUE.close();
    }

    private void play() {
        int left = CALLS;
        int frames = 40 + random.nextInt(140);
        left -= ask("threshold", 1 + random.nextInt(20000));
        for (int i = 1 + random.nextInt(4); i > 0; i--) {
            left -= makeStar();
        }
        for (int i = 0; i < frames; i++) {
            left -= tellFrame();
        }
        while (left > 0) {
            left -= left > 8 ? draw() : ask("audit");
        }
    }

    private int makeStar() {
        int many = 1 + random.nextInt(random.nextInt(4) == 0 ? 8 : 3);
        int slow = random.nextBoolean() ? 12 : 99;
        for (int i = 0; i < many; i++) {
            ask("shell", 1 + random.nextInt(99), 1 + random.nextInt(slow), random.nextInt(10));
        }
        ask("star", random.nextInt(100));
        return many + 1;
    }

    private int tellFrame() {
        int time = random.nextInt(random.nextInt(5) == 0 ? 256 : 96);
        int high = random.nextInt(3) == 0 ? 10000 : 3000;
        int count = time % 7 < 3 ? random.nextInt(high) : 9999 - random.nextInt(high);
        return ask("frame", star(), random.nextInt(4), time, count);
    }

    private int draw() {
        switch (random.nextInt(30)) {
            case 0: return ask("shell", off(1, 99), off(1, 99), off(0, 9));
            case 1: return ask("star", off(0, 99));
            case 2: return ask("frame", star(), off(0, 3), off(0, 255), off(0, 9999));
            case 3: return ask("drop", star(), off(0, 255));
            case 4: return askMask(off(0, 3), random.nextInt(4) == 0);
            case 5: return ask("threshold", random.nextInt(4) == 0 ? off(1, 1000000000) : off(1, 5000));
            case 6: return ask("takeOut", star(), off(1, 31));
            case 7: return random.nextInt(6) == 0 ? ask("putBack", star()) : 0;
            case 8: case 9: case 10: case 11: return claimSomePeak();
            case 12: return ask("claimAge", claim(), claim());
            case 13: return ask("claimAge", claim(), claim());
            case 14: return ask("claimPlanet", claim());
            case 15: return ask("cite", claim(), claim());
            case 16: return ask("cite", claim(), claim());
            case 17: return random.nextInt(4) == 0 ? ask("withdraw", claim()) : 0;
            case 18: return random.nextInt(4) == 0 ? ask("audit") : 0;
            case 19: return ask("ofStar", star(), off(0, 5));
            case 20: return ask("crossingAnew", star());
            case 21: return ask("tone", star(), off(1, 12), random.nextInt(4), off(-1, 1));
            case 22: return ask("tone", star(), off(1, 12), random.nextBoolean() ? 1 : off(0, 3), off(-3, 3));
            case 23: return ask("frames", star());
            case 24: return ask("value", star(), off(0, 2), off(0, 255));
            case 25: return ask("power", star(), off(0, 2), off(0, 31));
            case 26: return ask("window", star(), off(0, 31));
            case 27: return ask("isPeak", star(), off(0, 2), off(0, 31));
            case 28: return ask("isSeenThrough", star(), off(0, 2), off(0, 31), off(0, 31));
            default: return tellOfClaim();
        }
    }

    private int claimSomePeak() {
        int star = star();
        int filter = random.nextInt(3);
        int from = random.nextInt(31);
        for (int i = 0; i < 31 && star >= 0 && star < stars; i++) {
            int line = (from + i) % 31;
            if (model.isPeak(star, filter, line)) {
                return ask("claimTone", star, filter, line);
            }
        }
        return ask("claimTone", star, off(0, 2), off(0, 31));
    }

    private int tellOfClaim() {
        int claim = claim();
        for (int what = 0; what < 6; what++) {
            ask("ofClaim", claim, what);
        }
        ask("ofClaim", claim, random.nextBoolean() ? -1 : 6);
        return 7 + ask("isSound", claim);
    }

    /** A number within the bounds, or now and then beside them. */
    private int off(int from, int to) {
        int far = random.nextInt(40);
        if (far < 4) {
            return new int[] {from - 1, to + 1, Integer.MIN_VALUE, Integer.MAX_VALUE}[far];
        }
        return far < 8 ? (far < 6 ? from : to) : from + random.nextInt(to - from + 1);
    }

    private int star() {
        return random.nextInt(60) == 0 ? off(0, stars) : random.nextInt(Math.max(1, stars));
    }

    private int claim() {
        return random.nextInt(40) == 0 ? off(0, claims) : random.nextInt(Math.max(1, claims));
    }

    private int ask(String name, Integer... args) {
        return askBoth(name, (Object[]) args);
    }

    private int askMask(int site, boolean is) {
        return askBoth("mask", site, is);
    }

    private int askBoth(String name, Object... args) {
        String want = answer(model, MODEL_METHODS.get(name), args);
        String got = answer(tone, METHODS.get(name), args);
        DUE.holds("run " + run + ": " + name + Arrays.toString(args) + " answered " + got + ", due is " + want
                + ":", want.equals(got));
        if (!want.startsWith("java")) {
            ANSWERED.merge(name, 1, Integer::sum);
            stars += name.equals("star") ? 1 : 0;
            claims += name.startsWith("claim") ? 1 : 0;
        }
        return 1;
    }

    private static String answer(Object of, Method method, Object... args) {
        try {
            return String.valueOf(method.invoke(of, args));
        } catch (InvocationTargetException thrown) {
            return thrown.getCause().getClass().getName();
        } catch (IllegalAccessException never) {
            throw new AssertionError(never);
        }
    }

    private static final Map<String, Method> METHODS = methodsOf(AsteroTone.class);
    private static final Map<String, Method> MODEL_METHODS = methodsOf(Model.class);

    private static Map<String, Method> methodsOf(Class<?> type) {
        Map<String, Method> methods = new HashMap<>();
        for (Method method : type.getDeclaredMethods()) {
            if (java.lang.reflect.Modifier.isPublic(method.getModifiers())) {
                methods.put(method.getName(), method);
            }
        }
        return methods;
    }
}
