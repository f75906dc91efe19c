import java.lang.reflect.InvocationTargetException;
import java.lang.reflect.Method;
import java.lang.reflect.Modifier;
import java.util.NoSuchElementException;
import java.util.Random;
import java.util.Set;

/** Calls with wild arguments in all states: nothing is thrown but what the document tells. */
public final class MachineTest {
    private static final int[] WILD = {0, 1, 2, 3, 4, 5, 6, 7, 8, 10, 11, -1, -2, 17, 18, 300, 999, -999, 1000,
        Integer.MAX_VALUE, Integer.MIN_VALUE, Integer.MIN_VALUE + 1, 1 << 30};
    private static final Set<String> THROWING = Set.of("term", "undone");
    private static final String[] TEXTS = {
        "act m 2;", "act a 2;act b 4;law a(x,b(x,x,x,x))-b(a(x,x),x,x,x);", "act a 2;act b 2;act c 2;",
        "mod 2;act a 2;act b 2;law a(a(x,x),x)+b(x,a(x,x))+b(b(x,x),x);law b(x,b(x,x))+a(x,a(x,x));",
        "mod 3;act t 3;act u 3;act v 3;law t(u(x,x,x),x,x)+v(x,x,u(x,x,x));", "act q 4;law q(q(x,x,x,x),x,x,x);",
        "mod 5;act m 2;law m(m(x,x),x)-m(x,m(x,x));", "m(x,x)", "x", "m(m(x,x),x)+2 m(x,m(x,x))", "m=m(x,x);",
        "a=a(x,x);b=a(x,x);", "a(x,a(x,x))+a(a(x,x),x)", "q(x,x,x,x)", "\0\1", "\0\0\0", "\1\0\0\1\0\1\0\0", ""};

    public static void main(String[] args) throws IllegalAccessException {
        int wrong = faceIsAsTold();
        for (int seed = 0; seed < 400 && wrong == 0; seed++) {
            wrong += run(new Random(seed), seed);
        }
        System.out.println(wrong == 0 ? "nothing wild is thrown" : "wild throws: " + wrong);
        if (wrong != 0) {
            System.exit(1);
        }
    }

    private static int faceIsAsTold() {
        int found = 0;
        for (Method method : LeafWorlds.class.getDeclaredMethods()) {
            if (!Modifier.isPrivate(method.getModifiers()) && !method.isSynthetic()) {
                found++;
            }
        }
        if (found != 35) {
            System.out.println("the face has " + found + " methods, due are 35");
            return 1;
        }
        return 0;
    }

    private static int run(Random random, int seed) throws IllegalAccessException {
        LeafWorlds x = new LeafWorlds();
        Method[] methods = LeafWorlds.class.getDeclaredMethods();
        java.util.Arrays.sort(methods, java.util.Comparator.comparing(Method::getName));
        for (int call = 0; call < 512; call++) {
            if (random.nextInt(3) == 0) {
                feed(x, TEXTS[random.nextInt(TEXTS.length)]);
                if (random.nextInt(2) == 0) {
                    x.world();
                }
                continue;
            }
            Method method = methods[random.nextInt(methods.length)];
            if (!Modifier.isPublic(method.getModifiers())) {
                continue;
            }
            Object[] with = new Object[method.getParameterCount()];
            for (int i = 0; i < with.length; i++) {
                with[i] = random.nextBoolean() ? random.nextInt(8) : WILD[random.nextInt(WILD.length)];
            }
            try {
                method.invoke(x, with);
            } catch (InvocationTargetException e) {
                if (!(e.getCause() instanceof NoSuchElementException) || !THROWING.contains(method.getName())) {
                    System.out.println("seed " + seed + ": " + method.getName() + " throws " + e.getCause());
                    return 1;
                }
            }
        }
        return 0;
    }

    private static void feed(LeafWorlds x, String text) {
        x.end(0);
        for (int i = 0; i < text.length(); i += 20) {
            int[] n = new int[5];
            for (int j = 0; j < 20; j++) {
                n[j / 4] = n[j / 4] << 8 | (i + j < text.length() ? text.charAt(i + j) & 255 : 0);
            }
            x.feed(n[0], n[1], n[2], n[3], n[4]);
        }
        x.end(text.length());
    }
}
