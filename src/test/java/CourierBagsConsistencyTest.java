import java.lang.reflect.Array;
import java.lang.reflect.Field;

/**
 * No run of calls leads to a state that is not consistent, so this test alone reaches into the object, breaks its state
 * in each of the ways that promise 38 names, and looks whether isConsistent sees it.
 */
public final class CourierBagsConsistencyTest {
    private static int wrong = 0;

    public static void main(String[] args) throws Exception {
        for (int bag = 0; bag < 3; bag++) {
            breakEachRule(bag);
        }
        System.out.println(wrong == 0 ? "isConsistent sees each broken rule" : wrong + " wrong");
        if (wrong != 0) {
            System.exit(1);
        }
    }

    private static void breakEachRule(int bag) throws Exception {
        broken(packed(bag, 0), "nothing", true, 0, "id", 0);
        broken(packed(bag, 0), "the weights by both ways", false, 0, "layer", -1);
        broken(packed(bag, 0), "the weight limit", false, 1, "weight", 20);
        broken(packed(bag, 0), "a weight at the limit", true, 1, "weight", 19);
        broken(packed(bag, 0), "the size of the lowest layer", false, 0, "size", 8);
        broken(packed(bag, 0), "a full lowest layer", true, 0, "size", 7);
        broken(packed(bag, 0), "the size of a layer above", false, 2, "size", 11);
        broken(packed(bag, 0), "a full layer above", true, 2, "size", 10);
        broken(packed(bag, 0), "the load limit of the lowest layer", false, 2, "weight", 8);
        broken(packed(bag, 0), "a load at the limit", true, 2, "weight", 7);
        broken(packed(bag, 2), "the load limit of a layer above", false, 3, "weight", 9);
        broken(packed(bag, 2), "a load at the limit above", true, 3, "weight", 8);
        broken(packed(bag, 0), "the order above the lowest layer", false, 2, "stop", 6);
        broken(packed(bag, 0), "the order above another layer", false, 3, "stop", 5);
        broken(packed(bag, 0), "the same stop above", true, 3, "stop", 4);
        broken(packed(bag, 0), "an earlier stop in the same layer", true, 1, "stop", 9);
    }

    /** Three layers in the bag, 12 below its limit, with one fragile item. */
    private static CourierBags packed(int bag, int fragile) {
        CourierBags x = new CourierBags();
        for (int number = 0; number < 3; number++) {
            x.addBag(number == bag ? 27 : 99);
        }
        x.addItem(5, 6, 5, fragile == 0);
        x.addItem(3, 7, 5, false);
        x.addItem(8, 1, 4, fragile == 2);
        x.addItem(10, 1, 3, false);
        for (int id = 0; id < 4; id++) {
            x.pack(id, bag);
        }
        return x;
    }

    private static void broken(CourierBags x, String what, boolean want, int item, String field, int value)
            throws Exception {
        Object cargo = read(x, "cargo");
        Object target = Array.get(read(cargo, "items"), item);
        Field part = target.getClass().getDeclaredField(field);
        part.setAccessible(true);
        part.setInt(target, value);
        if (x.isConsistent() != want) {
            wrong++;
            System.out.println(what + " in bag " + x.bagOf(0) + ": isConsistent answered " + !want);
        }
    }

    private static Object read(Object object, String name) throws Exception {
        Field field = object.getClass().getDeclaredField(name);
        field.setAccessible(true);
        return field.get(object);
    }
}
