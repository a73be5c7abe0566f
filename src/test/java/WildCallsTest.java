import java.lang.reflect.InvocationTargetException;
import java.lang.reflect.Method;
import java.lang.reflect.Modifier;
import java.util.ArrayList;
import java.util.Comparator;
import java.util.List;
import java.util.NoSuchElementException;
import java.util.Random;
import java.util.Set;

/** Runs of 512 calls with any arguments in any state: nothing is thrown but where the document says so. */
public final class WildCallsTest {
    private static final int RUNS = 600;
    private static final int CALLS = 512;
    private static final Set<String> MAY_THROW = Set.of("step", "of", "row");
    private static final int[] ODD = {
        Integer.MIN_VALUE, Integer.MIN_VALUE + 1, -65536, -256, -24, -2, -1, 24, 25, 31, 32, 33, 63, 64, 120, 255, 256, 720, 998, 999, 1000, 9999,
        10000, 65536, Integer.MAX_VALUE - 1, Integer.MAX_VALUE,
    };
    private static final String[] TEXTS = {
        "5,9,3@0*24", "1,9,20@7w;1,0,0@0*23", "30,0,20@3*2", "1,9,0@0;1,8,1@1;1,7,2@2;1,6,3@3;1,5,4@4;1,4,5@5;1,3,6@6;1,2,7@7*2",
        "a*r-s+w*99+x*50-l/j", "((((a))))*-1<r=1", "999*999*999*999", "128*256*256*256/-1", "-(128*256*256*256)", "a/(r-r)", "x*30+j*9", "",
    };
    private static int wrong = 0;

    public static void main(String[] args) throws IllegalAccessException {
        int runs = args.length > 0 ? Integer.parseInt(args[0]) : RUNS;
        List<Method> face = new ArrayList<>();
        for (Method method : StairsInSteps.class.getDeclaredMethods()) {
            if (Modifier.isPublic(method.getModifiers())) {
                face.add(method);
            }
        }
        face.sort(Comparator.comparing(Method::getName));
        for (int seed = 1; seed <= runs && wrong < 5; seed++) {
            go(face, new Random(seed), seed);
        }
        System.out.println(wrong == 0 ? "nothing is thrown in " + runs + " wild runs" : wrong + " calls threw");
        if (wrong != 0) {
            System.exit(1);
        }
    }

    private static void go(List<Method> face, Random random, int seed) throws IllegalAccessException {
        StairsInSteps x = new StairsInSteps();
        int rare = random.nextInt(4);
        int calls = 0;
        while (calls < CALLS - 30) {
            if (random.nextInt(20) == 0) {
                String text = TEXTS[random.nextInt(TEXTS.length)];
                if (text.indexOf('@') >= 0 || random.nextInt(9) == 0) {
                    Tell.stairs(x, text);
                } else {
                    Tell.law(x, random.nextInt(2), text);
                }
                calls += 3 + (text.length() + 3) / 4;
                continue;
            }
            Method method = face.get(random.nextInt(face.size()));
            Object[] arguments = new Object[method.getParameterCount()];
            for (int i = 0; i < arguments.length; i++) {
                arguments[i] = method.getParameterTypes()[i] == boolean.class ? random.nextBoolean() : (Object) number(random, rare);
            }
            calls++;
            call(x, method, arguments, seed, calls);
        }
    }

    private static int number(Random random, int rare) {
        int dice = random.nextInt(20);
        if (dice < rare) {
            return dice == 0 ? random.nextInt() : ODD[random.nextInt(ODD.length)];
        }
        return dice < 12 ? random.nextInt(4) : random.nextInt(dice < 16 ? 24 : 128);
    }

    private static void call(StairsInSteps x, Method method, Object[] arguments, int seed, int at) throws IllegalAccessException {
        try {
            method.invoke(x, arguments);
        } catch (InvocationTargetException e) {
            Throwable thrown = e.getCause();
            boolean told = thrown.getClass() == NoSuchElementException.class && MAY_THROW.contains(method.getName());
            if (!told) {
                wrong++;
                System.out.println("seed " + seed + ", call " + at + ": " + method.getName() + List.of(arguments) + " threw " + thrown);
            }
        }
    }
}
