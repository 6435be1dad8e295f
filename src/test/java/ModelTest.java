import java.lang.reflect.Method;
import java.lang.reflect.Modifier;
import java.util.ArrayList;
import java.util.Arrays;
import java.util.Comparator;
import java.util.List;
import java.util.Random;

/** Runs of drawn calls (from fixed seeds) on the program and on the naive model, answer by answer. */
public final class ModelTest {
    private static final Method[] FACE = face(DaughtersGate.class);
    private static final Method[] MODEL = new Method[FACE.length];
    private static int wrong = 0;

    private static Method[] face(Class<?> c) {
        List<Method> all = new ArrayList<>();
        for (Method m : c.getDeclaredMethods()) if (Modifier.isPublic(m.getModifiers())) all.add(m);
        all.sort(Comparator.comparing(Method::getName));
        return all.toArray(new Method[0]);
    }

    static String text(Random r) {
        StringBuilder s = new StringBuilder();
        int places = 2 + r.nextInt(5);
        boolean poor = r.nextInt(2) == 0;
        s.append("shire places ").append(places).append(" has ").append(r.nextInt(poor ? 200 : 2000))
            .append(" owes ").append(r.nextInt(poor ? 150 : 400)).append(" builds ").append(1 + r.nextInt(poor ? 30 : 300))
            .append(" walk ").append(r.nextInt(25)).append(";");
        int roads = r.nextInt(9), farmers = r.nextInt(7);
        for (int i = 0; i < roads; i++) {
            int a = r.nextInt(places), b = (a + 1 + r.nextInt(places - 1)) % places;
            s.append("\nroad ").append(a).append(" to ").append(b).append(" miles ").append(1 + r.nextInt(r.nextBoolean() ? 3 : 20));
            if (r.nextInt(4) > 0) s.append(" gate ").append(1 + r.nextInt(r.nextBoolean() ? 4 : 99));
            s.append(";");
        }
        for (int i = 0; i < farmers; i++) {
            int a = r.nextInt(places), b = (a + 1 + r.nextInt(places - 1)) % places;
            s.append(" farmer at ").append(a).append(" to ").append(b).append(" times ").append(r.nextInt(10))
                .append(" courage ").append(r.nextInt(r.nextBoolean() ? 20 : 1000)).append(" odds ")
                .append(r.nextInt(4) == 0 ? r.nextInt(2) * 100 : r.nextInt(101)).append(" ;");
        }
        for (int i = r.nextInt(3); i > 0; i--)
            s.append("dragoons at ").append(r.nextInt(places)).append(" pace ").append(r.nextInt(r.nextBoolean() ? 5 : 20)).append(";");
        return s.toString();
    }

    private static String spoilText(Random r, String t) {
        StringBuilder s = new StringBuilder(t);
        String[] bits = {";", " ", "\n", "0", "9", "99999999999999999999", "gate", "road", "farmer", "shire", "to", "X",
            String.valueOf((char) 233), String.valueOf((char) 0), "dragoons at 0 pace 60;", "places", "\t"};
        for (int n = 1 + r.nextInt(2); n > 0; n--) {
            int at = r.nextInt(s.length() + 1);
            switch (r.nextInt(3)) {
                case 0: s.insert(at, bits[r.nextInt(bits.length)]); break;
                case 1: if (at < s.length()) s.deleteCharAt(at); break;
                default: s.setLength(at); break;
            }
        }
        return s.toString();
    }

    private static int argument(Random r) {
        switch (r.nextInt(24)) {
            case 0: return -1;
            case 1: return r.nextInt(70);
            case 2: return r.nextInt(110) - 5;
            case 3: return r.nextInt();
            case 4: return new int[] {Integer.MIN_VALUE, Integer.MAX_VALUE, 2000000000, 2000000001, -2, 10000, 9999}[r.nextInt(7)];
            case 5: case 6: return r.nextInt(64);
            default: return r.nextInt(7);
        }
    }

    private static Object ask(Method m, Object on, Object[] args) throws Exception {
        return ((Number) m.invoke(on, args)).longValue();
    }

    private static void both(Object x, Object y, int m, Object[] args, int run) throws Exception {
        Object got = ask(FACE[m], x, args), want = ask(MODEL[m], y, args);
        if (!got.equals(want) && wrong++ < 20)
            System.out.println("run " + run + ": " + FACE[m].getName() + Arrays.toString(args) + " answered " + got + ", due is " + want);
    }

    private static int index(String name) {
        for (int i = 0; i < FACE.length; i++) if (FACE[i].getName().equals(name)) return i;
        throw new IllegalArgumentException(name);
    }

    private static void load(Object x, Object y, String t, int run) throws Exception {
        both(x, y, index("end"), new Object[] {0}, run);
        for (int i = 0; i < t.length(); i += 20) {
            Object[] args = new Object[5];
            for (int k = 0; k < 5; k++) {
                int v = 0;
                for (int j = 0; j < 4; j++) {
                    int at = i + 4 * k + j;
                    v = v << 8 | (at < t.length() ? t.charAt(at) & 255 : 0);
                }
                args[k] = v;
            }
            both(x, y, index("feed"), args, run);
        }
        both(x, y, index("end"), new Object[] {t.length()}, run);
        both(x, y, index("shire"), new Object[0], run);
        both(x, y, index("fault"), new Object[] {0}, run);
        both(x, y, index("fault"), new Object[] {1}, run);
    }

    private static void oneCall(Object x, Object y, Random r, int run) throws Exception {
        if (r.nextInt(40) == 0) {
            load(x, y, r.nextInt(3) == 0 ? spoilText(r, text(r)) : text(r), run);
            return;
        }
        int m = r.nextInt(8) == 0 ? index(r.nextBoolean() ? "night" : "write") : r.nextInt(FACE.length);
        String name = FACE[m].getName();
        if (name.equals("shire") || name.equals("feed")) return;
        Class<?>[] types = FACE[m].getParameterTypes();
        Object[] args = new Object[types.length];
        for (int i = 0; i < args.length; i++) {
            if (types[i] == long.class) args[i] = r.nextInt(5) == 0 ? (Object) r.nextLong() : (Object) (long) (r.nextInt(9) - 1);
            else args[i] = argument(r);
        }
        if (name.equals("drawn") || name.equals("luck")) {
            if (r.nextInt(5) > 0) args[0] = r.nextInt(2000000001);
            if (r.nextInt(5) > 0) args[name.equals("drawn") ? 1 : 2] = r.nextInt(31);
        }
        both(x, y, m, args, run);
    }

    public static void main(String[] a) throws Exception {
        int runs = a.length > 0 ? Integer.parseInt(a[0]) : 150;
        for (int i = 0; i < FACE.length; i++) {
            MODEL[i] = NaiveModel.class.getDeclaredMethod(FACE[i].getName(), FACE[i].getParameterTypes());
        }
        for (int run = 0; run < runs; run++) {
            Random r = new Random(run * 7919L + (a.length > 1 ? Long.parseLong(a[1]) : 0));
            Object x = new DaughtersGate(), y = new NaiveModel();
            if (run % 10 != 0) load(x, y, text(r), run);
            for (int i = 0; i < 400; i++) oneCall(x, y, r, run);
        }
        System.out.println(wrong == 0 ? "model: all answers are alike" : "model: " + wrong + " answers differ");
        if (wrong != 0) System.exit(1);
    }
}
