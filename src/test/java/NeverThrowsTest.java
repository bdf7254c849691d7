import java.lang.reflect.InvocationTargetException;
import java.lang.reflect.Method;
import java.lang.reflect.Modifier;
import java.util.Arrays;
import java.util.Comparator;
import java.util.Random;

/**
 * LANGUAGE.md, rule 7: no call ever throws, for any arguments in any state; an object that has had
 * its 512 calls throws as little, though what it answers is free.
 */
public final class NeverThrowsTest {
    private static final int[] NUMBERS = {
        Integer.MIN_VALUE, -10000, -2, -1, 0, 1, 2, 3, 4, 5, 6, 8, 9, 12, 18, 39, 40, 60, 90, 91, 180, 999, 9999, 10000,
        99999, 100000, 9999999, 10000000, Integer.MAX_VALUE};
    /** Of calls with four and more arguments: all of NUMBERS would be too many together. */
    private static final int[] FEW_NUMBERS = {Integer.MIN_VALUE, -1, 0, 1, 5, 40, Integer.MAX_VALUE};
    private static final int DRAWN_CALLS = 400000;

    private NeverThrowsTest() {
    }

    public static void main(String[] args) throws Exception {
        for (Method m : BondStores.class.getDeclaredMethods()) {
            if (Modifier.isPublic(m.getModifiers())) {
                for (int state = 0; state < 4; state++) {
                    allNumbers(m, inState(state), "state " + state);
                }
            }
        }
        drawnCalls();
        Check.end("NeverThrowsTest");
    }

    private static BondStores inState(int state) {
        BondStores x = new BondStores();
        if (state == 0) {
            return x;
        }
        int most = state == 1 ? 2 : 4;
        for (int g = 0; g < most; g++) {
            x.guarantor(state == 3 ? 9999999 : 9000);
        }
        for (int s = 0; s < most + 2; s++) {
            x.store(s % most, (s + 1) % most, -1);
            x.stock(s, s % 5, 99999);
        }
        for (int day = 0; day < 6 * state; day++) {
            x.rate(0, day, state == 3 ? 999 - day : day);
        }
        x.terms(1, 0);
        for (int i = 0; i < 20 * most - 40; i++) {
            x.load(0, 1 + i % 2, 0, state == 3 ? 9999 : 1 + i, 1 + i * 2, i % 10);
        }
        x.image(1);
        return x;
    }

    private static void allNumbers(Method m, BondStores x, String where) throws Exception {
        Class<?>[] types = m.getParameterTypes();
        int[] numbers = types.length > 3 ? FEW_NUMBERS : NUMBERS;
        int[] at = new int[types.length];
        Object[] args = new Object[types.length];
        boolean isMore = true;
        while (isMore) {
            for (int i = 0; i < at.length; i++) {
                args[i] = types[i] == boolean.class ? (Object) (at[i] % 2 == 0) : (Object) numbers[at[i]];
            }
            call(m, x, args, where);
            isMore = false;
            for (int i = 0; i < at.length && !isMore; i++) {
                at[i] = (at[i] + 1) % numbers.length;
                isMore = at[i] > 0;
            }
        }
    }

    /** One object, far beyond its 512 calls. */
    private static void drawnCalls() throws Exception {
        Method[] all = BondStores.class.getDeclaredMethods();
        Arrays.sort(all, Comparator.comparing(Method::getName));
        Random dice = new Random(15);
        BondStores x = inState(3);
        for (int i = 0; i < DRAWN_CALLS; i++) {
            Method m = all[dice.nextInt(all.length)];
            if (Modifier.isPublic(m.getModifiers())) {
                Class<?>[] types = m.getParameterTypes();
                Object[] args = new Object[types.length];
                for (int j = 0; j < types.length; j++) {
                    int v = dice.nextInt(4) == 0 ? NUMBERS[dice.nextInt(NUMBERS.length)] : dice.nextInt(7);
                    args[j] = types[j] == boolean.class ? (Object) dice.nextBoolean() : (Object) v;
                }
                call(m, x, args, "call " + i);
            }
        }
    }

    private static void call(Method m, BondStores x, Object[] args, String where) throws Exception {
        String thrown = "";
        try {
            m.invoke(x, args);
        } catch (InvocationTargetException e) {
            thrown = where + ": " + m.getName() + Arrays.toString(args) + " threw " + e.getCause();
        }
        Check.due(thrown, thrown.length(), 0);
    }
}
