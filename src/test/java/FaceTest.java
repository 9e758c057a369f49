import java.lang.reflect.Constructor;
import java.lang.reflect.Field;
import java.lang.reflect.Method;
import java.lang.reflect.Modifier;
import java.util.Arrays;
import java.util.List;
import java.util.Random;
import java.util.TreeSet;

/** The public face, and that no call throws, whatever it is given. */
public final class FaceTest {
    private static final Check CHECK = new Check();
    private static final int[] NUMBERS = {0, 1, 0, 1, 0, 1, 2, -1, 3, 4, 5, 6, 7, 8, 10, 11, 12, 21, 24, 25, 40, 41,
        59, 60, 61, 600, -2, 1000, Integer.MAX_VALUE, Integer.MIN_VALUE, Integer.MAX_VALUE - 1};

    public static void main(String[] args) throws ReflectiveOperationException {
        face();
        for (int run = 0; run < 60; run++) {
            anyCalls(new Random(run));
        }
        CHECK.finish();
    }

    /** A call by its name and its types: "feed int int" and so on, what it answers behind. */
    private static String told(Method method) {
        StringBuilder out = new StringBuilder(method.getName());
        for (Class<?> type : method.getParameterTypes()) {
            out.append(' ').append(type.getName());
        }
        return out.append(": ").append(method.getReturnType().getName()).toString();
    }

    /** The same of a call of the document, which is as "int feed(int a, int b)". */
    private static String told(String call) {
        String[] parts = call.split("[ (]", 3);
        String types = parts[2].replaceAll(" [a-z]+[,)]", "").replaceAll("\\)", "");
        return parts[1] + " " + types + ": " + parts[0];
    }

    private static void face() {
        Document document = new Document();
        TreeSet<String> due = new TreeSet<>();
        for (String call : document.calls()) {
            due.add(told(call));
        }
        TreeSet<String> got = new TreeSet<>();
        for (Method method : OneDrum.class.getDeclaredMethods()) {
            if (!Modifier.isPrivate(method.getModifiers())) {
                got.add(told(method));
            }
        }
        CHECK.due("the methods are " + got + ", due are " + due, got.equals(due), true);
        for (Field field : OneDrum.class.getDeclaredFields()) {
            boolean isNone = field.getName().equals("NONE");
            CHECK.due(field.getName() + " is private", Modifier.isPrivate(field.getModifiers()), !isNone);
        }
        Constructor<?>[] constructors = OneDrum.class.getDeclaredConstructors();
        CHECK.due("one constructor", constructors.length, 1);
        CHECK.due("without parameters", constructors[0].getParameterCount(), 0);
        CHECK.due("public", Modifier.isPublic(constructors[0].getModifiers()), true);
        CHECK.due("final", Modifier.isFinal(OneDrum.class.getModifiers()), true);
        CHECK.due("public", Modifier.isPublic(OneDrum.class.getModifiers()), true);
        CHECK.due("NONE", OneDrum.NONE, -1);
        eachCallIsPromised(document);
    }

    /** The face's calls are those that the promises begin with, in their order; the first promise is of the constructor. */
    private static void eachCallIsPromised(Document document) {
        List<String> calls = document.calls();
        CHECK.due("as many calls as promises behind the first", calls.size(), Document.PROMISES - 1);
        CHECK.due("promise 1", document.callOf(1).equals("`OneDrum()`:"), true);
        for (int k = 0; k < calls.size(); k++) {
            CHECK.due("promise " + (k + 2), document.callOf(k + 2).equals("`" + calls.get(k) + "`:"), true);
        }
    }

    private static OneDrum full(Random random) {
        OneDrum x = new OneDrum();
        for (int k = random.nextInt(3); k > 0; k--) {
            Check.text(x, 0, OneDrum.NONE, "turn 3;tired 5;echo 2;from 0 3;from 1 3;step 0 4;order 0 left tap;"
                + "order 0 right tap tap;order 1 charge flam;order 1 retreat rest rest rest rest;");
        }
        for (int k = random.nextInt(3); k > 0; k--) {
            Check.text(x, 1, OneDrum.NONE, "gives 0 tap tap flam rest roll tap;gives 1 tap flam tap tap flam rest;");
        }
        for (int k = random.nextInt(3); k > 0; k--) {
            Check.text(x, 2, OneDrum.NONE, "made 0 left right left;made 1 charge retreat;");
        }
        for (int k = random.nextInt(3); k > 0; k--) {
            Check.text(x, 3, OneDrum.NONE, "twice 8 tap;drop 0 1;last 1;twice 0 tap;twice 3 tap;last 4;");
        }
        return x;
    }

    private static void anyCalls(Random random) throws ReflectiveOperationException {
        OneDrum x = full(random);
        for (int call = 0; call < 12; call++) {
            for (Method method : OneDrum.class.getMethods()) {
                if (method.getDeclaringClass() == OneDrum.class) {
                    anyCall(x, method, random);
                }
            }
        }
    }

    private static void anyCall(OneDrum x, Method method, Random random) throws ReflectiveOperationException {
        Class<?>[] types = method.getParameterTypes();
        Object[] given = new Object[types.length];
        for (int i = 0; i < types.length; i++) {
            given[i] = NUMBERS[random.nextInt(NUMBERS.length)];
            if (types[i] == boolean.class) {
                given[i] = random.nextBoolean();
            }
        }
        boolean threw = false;
        try {
            method.invoke(x, given);
        } catch (java.lang.reflect.InvocationTargetException e) {
            System.out.println(e.getCause());
            threw = true;
        }
        CHECK.due(method.getName() + Arrays.toString(given) + " threw", threw, false);
    }
}
