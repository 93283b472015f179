import java.lang.reflect.InvocationTargetException;
import java.lang.reflect.Method;
import java.util.ArrayList;
import java.util.List;
import java.util.Random;

/** Drawn houses and drawn calls, each answered by LentMinds and by Naive alike. */
public final class ModelTest {
    /** Below the 512 calls that an object has, as some are made beside those that are compared. */
    private static final int MOST_CALLS = 480;

    private static int wrong = 0;
    private static int calls = 0;

    private final Random random;
    private final LentMinds real = new LentMinds();
    private final Naive naive = new Naive();
    private final List<String> told = new ArrayList<>();
    private int bodies = 0;
    private int dear = 0;
    private int used = 0;

    private ModelTest(long seed) {
        random = new Random(seed);
    }

    public static void main(String[] args) {
        int runs = args.length > 0 ? Integer.parseInt(args[0]) : 280;
        int from = args.length > 1 ? Integer.parseInt(args[1]) : 0;
        for (int seed = from; seed < from + runs && wrong < 10; seed++) new ModelTest(seed).all();
        System.out.println("drawn calls: " + calls + ", wrong: " + wrong);
        if (wrong != 0) System.exit(1);
    }

    private void all() {
        if (random.nextInt(10) == 0) drawnCalls(40);
        int houses = 1 + random.nextInt(3);
        for (int i = 0; i < houses && used < MOST_CALLS - 100; i++) {
            tell(random.nextInt(4) == 0 ? spoiled(house()) : house());
            drawnCalls(90);
        }
    }

    private int of(int... numbers) {
        return numbers[random.nextInt(numbers.length)];
    }

    private int upTo(int most) {
        return random.nextInt(most + 1);
    }

    private String blanks() {
        return random.nextInt(12) == 0 ? "  " : "";
    }

    private String house() {
        StringBuilder text = new StringBuilder();
        int n = 1 + upTo(8);
        int style = upTo(3);
        for (int i = 0; i < n; i++) {
            int hold = style == 0 ? 1 + upTo(4) : style == 1 ? 5 + upTo(10) : style == 2 ? 7 + upTo(3) : 1 + upTo(59);
            int far = of(3, 8, 15);
            clause(text, "body", upTo(far), upTo(far), hold, 1 + upTo(of(5, 30, 239)), upTo(of(3, 99)), upTo(99));
            if (random.nextInt(3) == 0) extra(text, i + 1);
        }
        int more = upTo(8);
        for (int i = 0; i < more; i++) extra(text, n);
        if (random.nextBoolean()) clause(text, "breath", upTo(2));
        if (random.nextBoolean()) clause(text, "day", 30 + upTo(of(30, 100, 450)));
        return text.toString();
    }

    private void extra(StringBuilder text, int n) {
        int k = upTo(n - 1);
        switch (upTo(7)) {
            case 0 -> {
                if (n > 1 && text.indexOf("joint") < 0) clause(text, "joint", k, (k + 1) % n);
            }
            case 1, 2 -> {
                int f = upTo(of(10, 60, 479));
                clause(text, "sleep", k, f, Math.min(479, f + upTo(40)));
            }
            case 3 -> clause(text, "habit", k, 1 + upTo(of(2, 10, 59)));
            case 4, 5 -> clause(text, "cries", k, 1 + upTo(19), upTo(20));
            case 6 -> clause(text, "stride", 1 + upTo(29));
            default -> clause(text, "breath", upTo(of(1, 3, 9)));
        }
    }

    private void clause(StringBuilder text, String word, int... numbers) {
        text.append(blanks()).append(word);
        for (int n : numbers) text.append(' ').append(blanks()).append(random.nextInt(15) == 0 ? "0" : "").append(n);
        text.append(blanks()).append(';');
    }

    private String spoiled(String text) {
        StringBuilder s = new StringBuilder(text);
        int times = 1 + upTo(1);
        for (int i = 0; i < times && s.length() > 0; i++) {
            int at = upTo(s.length() - 1);
            switch (upTo(6)) {
                case 0 -> s.setCharAt(at, (char) upTo(255));
                case 1 -> s.deleteCharAt(at);
                case 2 -> s.insert(at, " 0123456789;abdy".charAt(upTo(15)));
                case 3 -> s.setLength(at);
                case 4 -> s.append(";".repeat(upTo(1))).append("body 1 2 3 4 5 6;".repeat(upTo(9)));
                case 5 -> s.append("day 30;".repeat(upTo(40)));
                default -> {
                    clause(s, List.of("body", "joint", "sleep", "habit", "cries", "breath", "stride", "day").get(upTo(7)),
                        upTo(of(3, 10, 500)), upTo(of(3, 10, 500)), upTo(of(3, 10, 500)));
                }
            }
        }
        return s.toString();
    }

    private void tell(String text) {
        String cut = text.length() > 500 ? text.substring(0, 500) : text;
        told.clear();
        told.add(cut);
        call("house", real.count(5));
        byte[] b = new byte[(cut.length() + 19) / 20 * 20];
        for (int i = 0; i < cut.length(); i++) b[i] = (byte) cut.charAt(i);
        for (int i = 0; i < b.length; i += 20) {
            int[] v = new int[5];
            for (int j = 0; j < 20; j++) v[j / 4] = v[j / 4] << 8 | b[i + j] & 255;
            call("feed", v[0], v[1], v[2], v[3], v[4]);
        }
        call("house", cut.length() + of(0, 0, 0, 0, 0, -1, 1));
        call("fault");
        bodies = real.told(0);
        for (int w = 0; w <= 4; w++) call("told", w);
        for (int k = 0; k < bodies; k++) for (int w = 0; w < 8; w++) call("body", k, w);
        dear = 0;
    }

    private int someBody() {
        return random.nextInt(25) == 0 ? of(-1, bodies, 9, 100, Integer.MIN_VALUE) : upTo(Math.max(0, bodies - 1));
    }

    private int some(int least, int most) {
        return random.nextInt(25) == 0 ? of(least - 1, most + 1, Integer.MAX_VALUE) : least + upTo(most - least);
    }

    private int someBits(int most) {
        if (random.nextInt(25) == 0) return of(0, -1, 512, 1 << bodies, 511, Integer.MIN_VALUE);
        int bits = 0;
        int n = 1 + upTo(most - 1);
        for (int i = 0; i < n && bodies > 0; i++) bits |= 1 << upTo(bodies - 1);
        return bits;
    }

    private void drawnCalls(int n) {
        for (int i = 0; i < n && used < MOST_CALLS; i++) drawnCall();
    }

    private void drawnCall() {
        switch (upTo(44)) {
            case 0, 1, 2, 3 -> call("minutes", of(1, 1, 2, 3, 5, some(1, 480) / of(1, 10, 40)));
            case 4, 5, 6 -> call("pass", someBody());
            case 7 -> call("bed", someBody(), of(0, 1));
            case 8 -> call("costs", someBody(), someBody());
            case 9, 10, 11 -> call("passing", random.nextInt(3) == 0 ? some(0, 479) : real.count(0) + upTo(30), someBody());
            case 12 -> call("clear");
            case 13, 14 -> call("judge", some(0, 3));
            case 15, 16, 17, 18 -> call("run", some(0, 5), some(1, of(5, 60)), some(0, 3), random.nextInt());
            case 19 -> call("best", some(1, of(5, 60)));
            case 20 -> callDear("often", some(0, 4));
            case 21, 22 -> call("taught", someBody(), some(1, of(3, 20, 239)), some(0, 4), some(1, of(5, 60)));
            case 23 -> call("pays", some(1, of(3, 20, 239)), some(0, 4), some(1, of(5, 60)));
            case 24 -> call("trust", someBody(), some(1, 20));
            case 25 -> call("answer", someBody(), some(1, 20), some(1, 60), some(0, of(20, 300, 9999)));
            case 26 -> callDear("can", someBits(4));
            case 27 -> callDear("step", someBits(4), some(0, of(10, 999)));
            case 28, 29 -> callDear("round", someBits(4), some(0, 2));
            case 30 -> call("density", someBits(4));
            case 31, 32 -> call("stay", someBody());
            case 33 -> call("beds", someBody(), some(0, 8), some(0, 1));
            case 34 -> callDear("two", someBits(6));
            case 35 -> call("alike", some(1, 60), some(0, 30));
            case 36 -> {
                int more = 1 + upTo(3);
                int far = of(3, 15);
                for (int i = 0; i < more; i++) call("spot", some(0, far), some(0, far));
                call("placed", 0);
                call("placed", 1);
            }
            case 37 -> call("placed", some(0, 1));
            case 38 -> callDear("back", someBits(3), some(1, 40), some(0, 1));
            case 39 -> callDear("safe");
            case 40 -> call("gone", some(0, 1));
            case 41 -> call("over");
            case 42 -> call("image");
            case 43 -> call("restore");
            default -> call("count", some(0, 5));
        }
        call("mind");
        call("day", some(0, 3));
        call("now", someBody(), some(0, 7));
    }

    /** The naive way takes long for these: only some of them in each house. */
    private void callDear(String name, int... args) {
        if (dear++ < 12) call(name, args);
    }

    private void call(String name, int... args) {
        if (used++ >= MOST_CALLS) return;
        calls++;
        StringBuilder text = new StringBuilder(name);
        for (int a : args) text.append(' ').append(a);
        String got = answer(real, name, args);
        String due = answer(naive, name, args);
        told.add(text + " -> " + got);
        if (!got.equals(due)) {
            wrong++;
            System.out.println("due is " + due + " in the last of " + told);
        }
    }

    private static String answer(Object object, String name, int[] args) {
        for (Method m : object.getClass().getDeclaredMethods()) {
            if (m.getName().equals(name) && m.getParameterCount() == args.length) {
                Object[] given = new Object[args.length];
                for (int i = 0; i < args.length; i++) {
                    given[i] = m.getParameterTypes()[i] == boolean.class ? (Object) (args[i] == 1) : (Object) args[i];
                }
                try {
                    m.setAccessible(true);
                    return String.valueOf(m.invoke(object, given));
                } catch (InvocationTargetException e) {
                    return e.getCause().getClass().getSimpleName();
                } catch (IllegalAccessException e) {
                    return "no access";
                }
            }
        }
        return "no method";
    }
}
