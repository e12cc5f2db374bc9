import java.lang.reflect.Constructor;
import java.lang.reflect.Field;
import java.lang.reflect.Method;
import java.lang.reflect.Modifier;
import java.util.List;
import java.util.TreeSet;

/** "The public face": the class, its constants, constructor and methods are those of the document, and no others. */
public final class FaceTest {
    private static final String[] METHODS = {"setVariety 4", "setRates 4", "setLabel 6", "buy 2", "addTank 1", "press 3",
        "wet 2", "sellPomace 0", "move 3", "rack 2", "clean 1", "pour 1", "bottle 4", "day 0", "appendCharacter 1",
        "clearText 0", "runScript 0", "count 1", "lot 2", "variety 2", "tank 2", "share 2", "why 2", "account 1",
        "bottles 2", "daysTo 2", "blendFor 3", "undo 0"};
    private static final String[] CONSTANTS = {"INVALID_ARGUMENT", "ILLEGAL_STATE", "CAPACITY_EXCEEDED", "NONE"};

    public static void main(String[] args) {
        classItself();
        methods();
        constants();
        Check.finish("FaceTest");
    }

    private static void classItself() {
        Check.due("face: public and final", CiderShop.class.getModifiers(), Modifier.PUBLIC | Modifier.FINAL);
        Constructor<?>[] constructors = CiderShop.class.getDeclaredConstructors();
        Check.due("face: constructors", constructors.length, 1);
        Check.due("face: public", constructors[0].getModifiers(), Modifier.PUBLIC);
        Check.due("face: without arguments", constructors[0].getParameterCount(), 0);
    }

    private static void methods() {
        TreeSet<String> seen = new TreeSet<>();
        for (Method method : CiderShop.class.getDeclaredMethods()) {
            if (Modifier.isPrivate(method.getModifiers()) || method.isSynthetic()) {
                continue;
            }
            seen.add(method.getName() + " " + method.getParameterCount());
            Check.due("face: " + method, method.getModifiers(), Modifier.PUBLIC);
            Check.due("face: " + method, method.getReturnType() == int.class ? 1 : 0, 1);
            for (Class<?> type : method.getParameterTypes()) {
                Check.due("face: " + method, type == int.class ? 1 : 0, 1);
            }
        }
        Check.due("face: methods", seen.toString(), new TreeSet<>(List.of(METHODS)).toString());
    }

    private static void constants() {
        TreeSet<String> seen = new TreeSet<>();
        for (Field field : CiderShop.class.getDeclaredFields()) {
            if (Modifier.isPrivate(field.getModifiers()) || field.isSynthetic()) {
                continue;
            }
            seen.add(field.getName());
            Check.due("face: " + field, field.getModifiers(), Modifier.PUBLIC | Modifier.STATIC | Modifier.FINAL);
        }
        Check.due("face: constants", seen.toString(), new TreeSet<>(List.of(CONSTANTS)).toString());
    }
}
