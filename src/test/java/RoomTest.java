import java.lang.reflect.Array;
import java.lang.reflect.Field;
import java.lang.reflect.Modifier;
import java.util.Collections;
import java.util.IdentityHashMap;
import java.util.Set;

/** How much room an object takes, and that no call puts anything more into it (LANGUAGE.md, rule 12). */
public final class RoomTest {
    private static final Check CHECK = new Check();
    private static final int OBJECTS_MOST = 300;
    private static final int ELEMENTS_MOST = 8000;

    private final Set<Object> objects = Collections.newSetFromMap(new IdentityHashMap<>());
    private int elements = 0;

    public static void main(String[] args) throws IllegalAccessException {
        OneDrum x = new OneDrum();
        RoomTest before = new RoomTest();
        before.walk(x);
        CHECK.due(before.objects.size() + " objects and arrays", before.objects.size() <= OBJECTS_MOST, true);
        CHECK.due(before.elements + " fields and elements", before.elements <= ELEMENTS_MOST, true);
        System.out.println(before.objects.size() + " objects and arrays, " + before.elements + " fields and elements");
        everyCall(x);
        RoomTest behind = new RoomTest();
        behind.walk(x);
        CHECK.due("elements behind all calls", behind.elements, before.elements);
        CHECK.due("the same objects behind all calls", behind.objects.equals(before.objects), true);
        CHECK.finish();
    }

    private void walk(Object of) throws IllegalAccessException {
        boolean isNew = of != null && !(of instanceof String) && objects.add(of);
        if (isNew && of.getClass().isArray()) {
            elements += Array.getLength(of);
            for (int i = 0; i < Array.getLength(of) && of instanceof Object[] all; i++) {
                walk(all[i]);
            }
        } else if (isNew) {
            for (Field field : of.getClass().getDeclaredFields()) {
                if (!Modifier.isStatic(field.getModifiers())) {
                    elements++;
                    field.setAccessible(true);
                    walk(field.getType().isPrimitive() ? null : field.get(of));
                }
            }
        }
    }

    private static void everyCall(OneDrum x) {
        String[] texts = {"turn 2;order 0 left tap;order 1 right flam;", "gives 0 tap flam;gives 1 flam rest;",
            "made 0 left;", "twice 8 tap;last 0;"};
        for (int sort = 0; sort < 4; sort++) {
            CHECK.due("text", Check.text(x, sort, OneDrum.NONE, texts[sort]), 0);
            CHECK.due("text", Check.text(x, sort, OneDrum.NONE, texts[sort]), 1);
            CHECK.due("fault", Check.text(x, sort, 0, "x"), OneDrum.NONE);
        }
        for (int k = 0; k < 3; k++) {
            CHECK.due("image", x.image(k), true);
            CHECK.due("again", x.again(k), true);
        }
        CHECK.due("row", x.row(0, 0, OneDrum.NONE, 0), 4);
        CHECK.due("made", x.made(0, 0, 0, OneDrum.NONE, 0), 1);
        CHECK.due("march", x.march(0, 0, 0, 24), -1);
        CHECK.due("meets", x.meets(0, 0), OneDrum.NONE);
        CHECK.due("force", x.force(0, 0, 1, 3, true), 37);
        CHECK.due("bribes", x.bribes(0, 0, 0, 0), 4);
        CHECK.due("meant", x.meant(0, 0, 0, 5, false), 243);
        CHECK.due("truce", x.truce(0, 1, 2, false), 2);
        CHECK.due("codes", x.codes(0, 0, 0), OneDrum.NONE);
        CHECK.due("shared", x.shared(0, OneDrum.NONE), 0);
        CHECK.due("tale", x.tale(0, 0, 0, 1, false), 2);
        CHECK.due("drawn", x.drawn(0, 0, 1, 40, 0), x.drawn(0, 0, 1, 40, 0));
        CHECK.due("common", x.common(0, 0, 0), 4);
        CHECK.due("readings", x.readings(0, 0, 0, false), 0);
        CHECK.due("unique", x.unique(0, 0, false), 1);
        CHECK.due("fix", x.fix(0, 0, 0, 2, false), OneDrum.NONE);
    }
}
