import java.lang.reflect.InvocationTargetException;
import java.lang.reflect.Method;
import java.util.ArrayList;
import java.util.Arrays;
import java.util.List;
import java.util.Random;

/** Random calls of the whole face: nothing but what the document names is thrown, and what throws changes nothing. */
final class RandomCallTest {
    private static final int[] EDGES = {-1, -2, 0, 1, 2, 23, 24, 25, 50, 100, 255, 256, 1000, 1440, 65535, 65536, 1000000, Integer.MAX_VALUE,
        Integer.MIN_VALUE, 1000001, 9999, 10000, 60, 59, 2000};

    private RandomCallTest() {
    }

    static void all() {
        Checks.test("P1-28 random calls throw nothing else, and what throws changes nothing", RandomCallTest::runs);
        Checks.test("P1-28 the same calls always give the same answers", RandomCallTest::sameAnswers);
    }

    private static List<Method> face() {
        List<Method> all = new ArrayList<>();
        for (Method m : TowerHouse.class.getDeclaredMethods()) {
            if (java.lang.reflect.Modifier.isPublic(m.getModifiers())) {
                all.add(m);
            }
        }
        all.sort((a, b) -> a.toString().compareTo(b.toString()));
        return all;
    }

    private static int number(Random r) {
        int kind = r.nextInt(20);
        if (kind == 0) {
            return EDGES[r.nextInt(EDGES.length)];
        }
        return kind < 12 ? r.nextInt(5) : kind < 17 ? r.nextInt(14) : kind < 18 ? r.nextInt(100) : r.nextInt(25) - 1;
    }

    private static long longNumber(Random r, String name) {
        String[] words = {"a:1=1", ";b:a<x", "a", "x", "ab", "@3", "!1>0", "/a", "-(x)", "*99999", "+1", ";", "c:x>=a"};
        int kind = r.nextInt(12);
        if (kind == 0) {
            return r.nextLong();
        }
        if (name.equals("say")) {
            return Houses.word(words[r.nextInt(words.length)]);
        }
        return Houses.word(new String[] {"a", "x", "ab", "zzz"}[r.nextInt(4)]);
    }

    private static Object[] arguments(Random r, Method m) {
        Class<?>[] types = m.getParameterTypes();
        Object[] all = new Object[types.length];
        for (int k = 0; k < types.length; k++) {
            all[k] = types[k] == int.class ? (Object) number(r) : types[k] == long.class ? (Object) longNumber(r, m.getName()) : (Object) r.nextBoolean();
        }
        if (m.getName().equals("unit") && r.nextInt(4) > 0) {
            all[0] = (int) "zone needs of act kind rank delay when does hold ; & 0123456789 \n".charAt(r.nextInt(64));
        }
        return all;
    }

    /** What a call answers, or the exception that it throws. */
    private static Object answer(TowerHouse x, Method m, Object[] arguments) throws Exception {
        try {
            return m.invoke(x, arguments);
        } catch (InvocationTargetException e) {
            Class<?> kind = e.getCause().getClass();
            boolean isDeclared = Arrays.asList(m.getExceptionTypes()).contains(kind);
            if (!isDeclared || kind != IllegalArgumentException.class && kind != IllegalStateException.class) {
                throw new AssertionError(m.getName() + Arrays.toString(arguments), e.getCause());
            }
            return kind;
        }
    }

    private static TowerHouse begun(int kind) {
        switch (kind % 5) {
            case 0:
                return new TowerHouse();
            case 1:
                return Houses.fourPlanned();
            case 2:
                return Houses.one(3, 3);
            default:
                TowerHouse x = Houses.four();
                for (int k = 0; k < 4; k++) {
                    x.person(k % 2, 1 + k);
                    x.card(k, 100);
                    x.right(k % 2, 1 + k, 0, 1439, 0);
                    x.block(k * 5);
                    x.sentence(0, k, 1, k, 3);
                    x.sentence(1, k, k, k, k);
                    x.sentence(2, k, k, 0, 0);
                }
                x.sentence(4, 1, 0, 0, 0);
                x.matrix();
                x.car(3, 1);
                x.fire(1, 1);
                return x;
        }
    }

    private static void runs() throws Exception {
        List<Method> face = face();
        int answered = 0;
        for (int seed = 0; seed < 400; seed++) {
            Random r = new Random(seed);
            TowerHouse x = begun(seed);
            TowerHouse y = begun(seed);
            for (int k = 0; k < 450; k++) {
                Method m = face.get(r.nextInt(face.size()));
                Object[] arguments = arguments(r, m);
                Object got = answer(x, m, arguments);
                if (!(got instanceof Class)) {
                    answered++;
                    Object other = m.invoke(y, arguments);
                    if (got == null ? other != null : !got.equals(other)) {
                        throw new AssertionError(seed + "/" + k + " " + m.getName() + Arrays.toString(arguments) + " answered " + got + " and " + other);
                    }
                }
            }
        }
        if (answered < 50000) {
            throw new AssertionError("just " + answered + " calls answered");
        }
    }

    private static void sameAnswers() throws Exception {
        List<Method> face = face();
        for (int seed = 0; seed < 60; seed++) {
            List<Object> first = answers(face, seed);
            Checks.due(true, first.equals(answers(face, seed)));
        }
    }

    private static List<Object> answers(List<Method> face, int seed) throws Exception {
        Random r = new Random(seed);
        TowerHouse x = begun(seed);
        List<Object> all = new ArrayList<>();
        for (int k = 0; k < 450; k++) {
            Method m = face.get(r.nextInt(face.size()));
            all.add(answer(x, m, arguments(r, m)));
        }
        return all;
    }
}
