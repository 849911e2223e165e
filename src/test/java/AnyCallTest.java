import java.lang.reflect.InvocationTargetException;
import java.lang.reflect.Method;
import java.util.ArrayList;
import java.util.Comparator;
import java.util.List;
import java.util.Random;

/** Any calls with any arguments: nothing but what the face names is ever thrown. */
public final class AnyCallTest {
    private static final int[] EDGES = {0, 1, 2, 9, 10, 11, 12, 20, 29, 30, 40, 200, 299, 300, 1000, 1001,
        4399, 4400, 500000, 500001, 1151999, 1152000, 1583999, 1584000, 10000000, 10000001,
        Integer.MAX_VALUE, Integer.MIN_VALUE, -1, -2, -500000, -500001};

    // Three counts, ten feeds and the stone itself.
    private static final int MOST_FOR_A_STONE = 14;

    public static void main(String[] args) throws IllegalAccessException {
        List<Method> face = new ArrayList<>();
        for (Method m : StoneDates.class.getDeclaredMethods()) {
            if (java.lang.reflect.Modifier.isPublic(m.getModifiers())) {
                face.add(m);
            }
        }
        face.sort(Comparator.comparing(Method::getName));
        Random random = new Random(17);
        for (int round = 0; round < 500; round++) {
            StoneDates x = new StoneDates();
            int calls = 0;
            while (calls < 512) {
                if (random.nextInt(12) == 0 && calls + MOST_FOR_A_STONE <= 512) {
                    someStone(x, random);
                    calls += MOST_FOR_A_STONE;
                } else {
                    call(x, face.get(random.nextInt(face.size())), random);
                    calls++;
                }
            }
        }
        Check.end("AnyCallTest");
    }

    private static void someStone(StoneDates x, Random random) {
        if (x.count(0) == 0 || x.count(1) == 30) {
            return;
        }
        String text = random.nextBoolean() ? Texts.spoil(Texts.make(random), random)
                : "long 9.9." + random.nextInt(3) + "." + random.nextInt(18) + "." + random.nextInt(20)
                + (random.nextBoolean() ? ";" : "-19;");
        Check.feed(x, text.substring(0, Math.min(200, text.length())));
        x.stone(0, Math.min(text.length(), x.count(5)));
    }

    private static void call(StoneDates x, Method m, Random random) throws IllegalAccessException {
        Object[] given = new Object[m.getParameterCount()];
        for (int i = 0; i < given.length; i++) {
            boolean isInt = m.getParameterTypes()[i] == int.class;
            given[i] = isInt ? (Object) someInt(random) : (Object) random.nextBoolean();
        }
        String got = "";
        try {
            m.invoke(x, given);
        } catch (InvocationTargetException e) {
            got = e.getCause().getClass().getName();
        }
        boolean named = got.isEmpty();
        for (Class<?> type : m.getExceptionTypes()) {
            named |= type.getName().equals(got);
        }
        Check.due(m.getName() + java.util.Arrays.toString(given) + " " + got, named, true);
    }

    private static int someInt(Random random) {
        int how = random.nextInt(10);
        return how == 0 ? random.nextInt() : how < 4 ? EDGES[random.nextInt(EDGES.length)] : random.nextInt(24);
    }
}
