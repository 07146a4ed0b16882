import java.lang.reflect.Method;
import java.lang.reflect.Modifier;
import java.util.Arrays;
import java.util.Comparator;
import java.util.Random;

/** Every method, with numbers from anywhere, in states from anywhere, and beyond 512 calls, too: nothing is thrown. */
public final class NeverThrowsTest {
    private static final int[] EDGES = {Integer.MIN_VALUE, Integer.MIN_VALUE + 1, -1000, -31, -30, -21, -20, -11, -10, -6,
        -5, -2, -1, 0, 1, 2, 3, 4, 5, 6, 7, 8, 9, 10, 15, 16, 19, 20, 21, 25, 26, 29, 30, 35, 36, 59, 60, 61, 98, 99, 100,
        127, 128, 989, 990, 998, 999, 1000, Integer.MAX_VALUE - 1, Integer.MAX_VALUE};
    private static final String SIGNS = "rain 1;need 2;wrong 9 p<5&!(g>3|s=0);calm 12 k=6|d<4";

    public static void main(String[] args) throws ReflectiveOperationException {
        Method[] face = face();
        for (Method method : face) {
            everyEdge(method);
        }
        Random random = new Random(7);
        for (int run = 0; run < 150; run++) {
            SaltPeace x = new SaltPeace();
            for (int call = 0; call < 600; call++) {
                Method method = face[random.nextInt(face.length)];
                if (random.nextInt(3) == 0) {
                    x.feed(SIGNS.charAt((call * 7 + run) % SIGNS.length()));
                }
                method.invoke(x, drawn(method, random));
            }
        }
        System.out.println("NeverThrowsTest: nothing was thrown");
    }

    private static Method[] face() {
        Method[] face = Arrays.stream(SaltPeace.class.getDeclaredMethods())
            .filter(method -> Modifier.isPublic(method.getModifiers())).toArray(Method[]::new);
        Arrays.sort(face, Comparator.comparing(Method::getName));
        return face;
    }

    private static Object[] drawn(Method method, Random random) {
        Object[] with = new Object[method.getParameterCount()];
        for (int i = 0; i < with.length; i++) {
            if (method.getParameterTypes()[i] == boolean.class) {
                with[i] = random.nextBoolean();
            } else {
                with[i] = random.nextInt(3) == 0 ? EDGES[random.nextInt(EDGES.length)] : random.nextInt(7);
            }
        }
        return with;
    }

    private static SaltPeace ready() {
        SaltPeace x = Due.under("wrong 20 p<9&!(g>7);calm 3 d<4;rain 2;need 0");
        Due.people(x, 6, 9, 0, 5, 0, 1, 4, 3, 0, 2, 9, 5);
        x.see(0, 50, 3);
        x.plan(0, 0);
        x.book(1, 1);
        x.image();
        return x;
    }

    private static void everyEdge(Method method) throws ReflectiveOperationException {
        int many = method.getParameterCount();
        Object[] with = new Object[many];
        SaltPeace bare = new SaltPeace();
        SaltPeace x = ready();
        int all = 1;
        for (int i = 0; i < many; i++) {
            all *= EDGES.length;
        }
        // of three numbers every seventh mix is enough
        for (int mix = 0; mix < all; mix += many == 3 ? 7 : 1) {
            int rest = mix;
            for (int i = 0; i < many; i++) {
                int edge = EDGES[rest % EDGES.length];
                with[i] = method.getParameterTypes()[i] == boolean.class ? (Object) (edge > 0) : (Object) edge;
                rest /= EDGES.length;
            }
            method.invoke(bare, with);
            method.invoke(x, with);
        }
    }
}
