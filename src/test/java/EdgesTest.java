import java.lang.reflect.Method;
import java.lang.reflect.Modifier;
import java.util.ArrayList;
import java.util.Arrays;
import java.util.List;

/** Every method with every choice of numbers at the document's bounds, in several states, on the program and on the naive model. */
public final class EdgesTest {
    private static final int[] MANY = {Integer.MIN_VALUE, -2, -1, 0, 1, 2, 3, 4, 5, 6, 7, 8, 9, 15, 16, 59, 60, 61, 63, 64, 99, 100, 101,
        9999, 10000, Integer.MAX_VALUE};
    private static final int[] SOME = {Integer.MIN_VALUE, -1, 0, 1, 2, 3, 4, 20, 21, 30, 31, 60, 61, 2000000000, 2000000001, Integer.MAX_VALUE};
    private static final int[] FEW = {Integer.MIN_VALUE, -1, 0, 1, 3, 4, Integer.MAX_VALUE};
    private static final List<String> CHANGE = List.of("end", "shire", "night", "undo", "anew", "rate", "times", "image", "back", "row", "write", "paste");
    private static final List<String> TOLD = List.of("gates", "income", "dragoons", "open", "first", "angry", "lasts");
    private static int wrong = 0;
    private static int asked = 0;

    /** The program and the model, asked alike. */
    private static final class Pair {
        final Object[] both = {new DaughtersGate(), new NaiveModel()};
        int calls = 0;

        long ask(String name, Object... args) throws Exception {
            long[] got = new long[2];
            for (int i = 0; i < 2; i++) {
                got[i] = ((Number) method(both[i].getClass(), name).invoke(both[i], args)).longValue();
            }
            calls++;
            asked++;
            if (got[0] != got[1] && wrong++ < 20) {
                System.out.println(name + Arrays.toString(args) + " answered " + got[0] + ", due is " + got[1]);
            }
            return got[0];
        }

        void load(String text) throws Exception {
            String padded = text + " ".repeat(19);
            for (int i = 0; i < text.length(); i += 20) {
                Object[] numbers = new Object[5];
                for (int k = 0; k < 20; k++) {
                    int high = k % 4 == 0 ? 0 : (Integer) numbers[k / 4] << 8;
                    numbers[k / 4] = high | padded.charAt(i + k);
                }
                ask("feed", numbers);
            }
            ask("shire");
        }

        void fill(int slot, int width, long... numbers) throws Exception {
            ask("row", slot, width, numbers.length);
            for (int i = 0; i < numbers.length; i++) {
                ask("write", slot, i, numbers[i]);
            }
        }

        /** What a call may have changed. */
        void look() throws Exception {
            for (int i = 0; i < 10; i++) {
                ask("count", i);
                ask("now", i);
                ask("down", i);
                ask("road", i, 3);
                ask("farmer", i, 2);
            }
            for (int slot = 0; slot < 4; slot++) {
                ask("judge", slot);
                ask("funds", slot);
                ask("who", slot);
            }
            for (String name : TOLD) {
                ask(name);
            }
        }
    }

    private static Method method(Class<?> c, String name) {
        for (Method m : c.getDeclaredMethods()) {
            if (m.getName().equals(name) && Modifier.isPublic(m.getModifiers())) {
                return m;
            }
        }
        throw new IllegalArgumentException(name);
    }

    private static Pair state(int which) throws Exception {
        Pair p = new Pair();
        p.fill(0, 0, 0, -1, 3);
        p.fill(1, 0, 3, 0);
        p.fill(2, 3, 1, 2, 3, -1);
        if (which == 1) {
            p.load(Setups.FULL);
        } else if (which == 2) {
            p.load(Setups.FULL);
            p.ask("image", 0);
            p.ask("night", 0);
            p.ask("night", 3);
        } else if (which == 3) {
            p.load(Land.head(4, 0, 5, 50, 0) + Land.gate(0, 1, 1, 5) + Land.gate(1, 2, 1, 9) + Land.farmer(0, 1, 1) + Land.dragoons(3, 0));
            p.ask("night", 0);
        } else if (which == 4) {
            p.load(Land.head(2));
        }
        return p;
    }

    /** Each choice of a number for each parameter. */
    private static List<Object[]> choices(Class<?>[] types) {
        int[] edges = types.length > 3 ? FEW : types.length > 2 ? SOME : MANY;
        List<Object[]> all = new ArrayList<>();
        all.add(new Object[0]);
        for (Class<?> type : types) {
            List<Object[]> longer = new ArrayList<>();
            for (Object[] row : all) {
                for (int v : edges) {
                    Object[] next = Arrays.copyOf(row, row.length + 1);
                    next[row.length] = type == long.class ? (Object) (v * 5000000001L) : (Object) v;
                    longer.add(next);
                }
            }
            all = longer;
        }
        return all;
    }

    private static void edges(Method m, int which) throws Exception {
        boolean changes = CHANGE.contains(m.getName());
        Pair p = state(which);
        for (Object[] args : choices(m.getParameterTypes())) {
            if (p.calls > 350) {
                p = state(which);
            }
            long answer = p.ask(m.getName(), args);
            if (changes && answer >= 0) {
                p.look();
                p = state(which);
            }
        }
        p.look();
    }

    public static void main(String[] args) throws Exception {
        for (Method m : DaughtersGate.class.getDeclaredMethods()) {
            if (!Modifier.isPublic(m.getModifiers()) || m.getName().equals("feed")) {
                continue;
            }
            for (int which = 0; which <= 4; which++) {
                edges(m, which);
            }
        }
        System.out.println("edges: " + asked + " answers, " + wrong + " of them differ");
        if (wrong != 0 || asked == 0) {
            System.exit(1);
        }
    }
}
