import java.lang.reflect.Array;
import java.lang.reflect.Field;

/**
 * No run of calls leads to a state that is not consistent, so this test alone reaches into the object, breaks its state
 * in each of the ways that promise 38 names, and looks whether isConsistent sees it.
 */
public final class CourierBagsConsistencyTest {
    private static int wrong = 0;

    public static void main(String[] args) throws Exception {
        broken("nothing", true, 0, "id", 0);
        broken("the weights by both ways", false, 0, "layer", -1);
        broken("the weight limit", false, 1, "weight", 20);
        broken("a weight at the limit", true, 1, "weight", 19);
        broken("the layer size", false, 0, "size", 8);
        broken("a full layer", true, 0, "size", 7);
        broken("the load limit", false, 2, "weight", 9);
        broken("a load at the limit", true, 2, "weight", 8);
        broken("the order", false, 2, "stop", 6);
        broken("the same stop above", true, 2, "stop", 5);
        broken("an earlier stop in the same layer", true, 1, "stop", 9);
        System.out.println(wrong == 0 ? "isConsistent sees each broken rule" : wrong + " wrong");
        if (wrong != 0) {
            System.exit(1);
        }
    }

    private static CourierBags packed() {
        CourierBags x = new CourierBags();
        x.addBag(99);
        x.addBag(26);
        x.addItem(5, 6, 5, true);
        x.addItem(3, 7, 5, false);
        x.addItem(8, 1, 4, false);
        for (int id = 0; id < 3; id++) {
            x.pack(id, 1);
        }
        return x;
    }

    private static void broken(String what, boolean want, int item, String field, int value) throws Exception {
        CourierBags x = packed();
        Object cargo = read(x, "cargo");
        Object target = Array.get(read(cargo, "items"), item);
        Field part = target.getClass().getDeclaredField(field);
        part.setAccessible(true);
        part.setInt(target, value);
        if (x.isConsistent() != want) {
            wrong++;
            System.out.println(what + ": isConsistent answered " + !want);
        }
    }

    private static Object read(Object object, String name) throws Exception {
        Field field = object.getClass().getDeclaredField(name);
        field.setAccessible(true);
        return field.get(object);
    }
}
