import java.lang.reflect.Constructor;
import java.lang.reflect.Field;
import java.lang.reflect.Member;
import java.lang.reflect.Method;
import java.lang.reflect.Modifier;
import java.util.ArrayList;
import java.util.List;
import java.util.TreeSet;

/** The public face as the document has it, and calls that throw nothing else, whatever they are given. */
public final class FaceTest {
    private static final String[] FACE = {
        "public static final int WindowCache.NONE",
        "public WindowCache(int,int,int)",
        "public int WindowCache.get(int)",
        "public boolean WindowCache.has(int)",
        "public boolean WindowCache.put(int,int,int,int) throws java.lang.IllegalArgumentException",
        "public int WindowCache.remove(int)",
        "public int WindowCache.load(int) throws java.lang.IllegalArgumentException,java.lang.IllegalStateException",
        "public boolean WindowCache.refresh(int)",
        "public boolean WindowCache.finish(int,int,int) throws java.lang.IllegalStateException,java.lang.IllegalArgumentException",
        "public void WindowCache.fail(int) throws java.lang.IllegalStateException",
        "public long WindowCache.advance(int)",
        "public int WindowCache.maintain()",
        "public int WindowCache.count(int)",
        "public int WindowCache.often(int)",
        "public int WindowCache.at(int,int)",
        "public int WindowCache.listened(int,int)",
    };
    private static final int[] ODDITIES = {Integer.MIN_VALUE, -1000, -2, -1, 0, 1, 2, 7, 15, 16, 17, 18, 499, 500, 501, 999, 1000, 1001,
        5000, 5001, Integer.MAX_VALUE};

    private static int wrong;

    public static void main(String[] args) {
        lookAtFace();
        for (int max : new int[] {Integer.MIN_VALUE, 0, 1, 3, 40, 5000, Integer.MAX_VALUE}) {
            for (int life : new int[] {Integer.MIN_VALUE, 0, 1, 9, Integer.MAX_VALUE}) {
                for (int run = 0; run < 40; run++) {
                    callWithAnything(max, life, run);
                }
            }
        }
        System.out.println(wrong == 0 ? "the face is as due" : wrong + " faults");
        if (wrong != 0) {
            System.exit(1);
        }
    }

    private static void lookAtFace() {
        List<Member> members = new ArrayList<>();
        members.addAll(List.of(WindowCache.class.getDeclaredFields()));
        members.addAll(List.of(WindowCache.class.getDeclaredConstructors()));
        members.addAll(List.of(WindowCache.class.getDeclaredMethods()));
        TreeSet<String> found = new TreeSet<>();
        TreeSet<String> faceNames = new TreeSet<>();
        for (Member member : members) {
            if (!Modifier.isPrivate(member.getModifiers())) {
                found.add(told(member));
                faceNames.add(member.getName());
            }
        }
        if (!found.equals(new TreeSet<>(List.of(FACE)))) {
            fault("the face is " + found);
        }
        if (WindowCache.class.getModifiers() != (Modifier.PUBLIC | Modifier.FINAL)) {
            fault("the class is not public and final");
        }
        lookAtHiddenNames(WindowCache.class, faceNames);
        for (Class<?> inside : WindowCache.class.getDeclaredClasses()) {
            lookAtHiddenNames(inside, faceNames);
        }
    }

    private static String told(Member member) {
        if (member instanceof Field field) {
            return field.toGenericString();
        }
        return member instanceof Method method ? method.toGenericString() : ((Constructor<?>) member).toGenericString();
    }

    private static void lookAtHiddenNames(Class<?> type, TreeSet<String> faceNames) {
        for (Method method : type.getDeclaredMethods()) {
            if (!Modifier.isPublic(method.getModifiers()) && faceNames.contains(method.getName())) {
                fault(method + " bears the name of a public one");
            }
        }
    }

    private static void callWithAnything(int max, int life, int run) {
        Cache cache = new Cache(max, life, life);
        int seed = max ^ life ^ run * 7919;
        for (int call = 1; call <= Cache.MOST_CALLS; call++) {
            int[] given = new int[5];
            for (int i = 0; i < given.length; i++) {
                seed = seed * 1103515245 + 12345;
                int drawn = seed >>> 8;
                given[i] = drawn % 3 == 0 ? ODDITIES[drawn / 3 % ODDITIES.length] : drawn / 3 % 1000;
            }
            try {
                callOne(cache, Math.floorMod(given[0], 14), given);
            } catch (RuntimeException e) {
                fault("call " + call + " of " + Math.floorMod(given[0], 14) + " throws " + e);
                return;
            }
        }
    }

    private static void callOne(Cache cache, int op, int[] given) {
        switch (op) {
            case 0 -> cache.get(given[1]);
            case 1 -> cache.has(given[1]);
            case 2 -> cache.remove(given[1]);
            case 3 -> cache.refresh(given[1]);
            case 4 -> cache.advance(given[1]);
            case 5 -> cache.maintain();
            case 6 -> cache.count(given[1]);
            case 7 -> cache.often(given[1]);
            case 8 -> cache.at(given[1] % 4, given[2]);
            case 9 -> cache.listened(given[1], given[2] % 5);
            default -> callThrower(cache, op, given);
        }
    }

    private static void callThrower(Cache cache, int op, int[] given) {
        String name = "";
        try {
            switch (op) {
                case 10 -> cache.put(given[1], given[2], given[3], given[4]);
                case 11 -> cache.load(given[1]);
                case 12 -> cache.finish(given[1], given[2], given[3]);
                default -> cache.fail(given[1]);
            }
        } catch (IllegalArgumentException | IllegalStateException e) {
            name = e.getClass().getName();
        }
        boolean fits = switch (op) {
            case 10 -> !name.endsWith("IllegalStateException");
            case 13 -> !name.endsWith("IllegalArgumentException");
            default -> true;
        };
        if (!fits) {
            fault("op " + op + " throws " + name);
        }
    }

    private static void fault(String text) {
        wrong++;
        System.out.println(text);
    }
}
