import java.lang.reflect.Constructor;
import java.lang.reflect.Field;
import java.lang.reflect.Method;
import java.lang.reflect.Modifier;
import java.util.Map;
import java.util.TreeMap;

/** The public face: the document's constants, constructor and methods, and no other. */
public final class FaceTest {
    private static final Map<String, Integer> CONSTANTS = new TreeMap<>();
    private static final Map<String, Integer> PARAMETERS = new TreeMap<>();

    private FaceTest() {
    }

    private static void methods(int parameters, String... names) {
        for (String name : names) {
            PARAMETERS.put(name, parameters);
        }
    }

    private static void dueFace() {
        String[] errors = {
            "NO_SUCH_INDEX", "BAD_VALUE", "DUPLICATE_POINT", "FULL", "NONE", "EMPTY_SLOT",
            "WRONG_TYPE", "NEGATIVE_SIZE", "LENGTH_MISMATCH"
        };
        for (int k = 0; k < errors.length; k++) {
            CONSTANTS.put(errors[k], -1 - k);
        }
        CONSTANTS.put("SYNTAX_ERROR", -100);
        CONSTANTS.put("TIE_X", 0);
        CONSTANTS.put("TIE_Y", 1);
        methods(0, "prime", "pointCount", "swapCoordinates", "coneCount", "universalSize",
                "universalDegree", "flattestCone", "termCount", "isVanishing", "inputLength",
                "parsePoints", "saveSnapshot", "restoreSnapshot");
        methods(1, "setPrime", "removePoint", "pointX", "pointY", "wallNumerator",
                "wallDenominator", "basisSize", "changedCorners", "mirroredCone", "evaluate",
                "reduceToNormalForm", "appendInput", "outputByte", "storePolynomial",
                "loadPolynomial", "clearSlot");
        methods(2, "addPoint", "translate", "scale", "firstConeContaining", "conesContaining",
                "coneHeight", "basisCorner", "coefficient", "interpolate", "loadBasisPolynomial",
                "format", "newArray", "element", "firstDifference");
        methods(3, "cornerCount", "setCoefficient", "setElement");
        methods(4, "columnHeight", "corner", "basisCoefficient");
    }

    private static void constants() throws IllegalAccessException {
        int found = 0;
        for (Field field : GroebnerFan.class.getDeclaredFields()) {
            if (Modifier.isPrivate(field.getModifiers())) {
                continue;
            }
            found++;
            boolean isConstant = field.getModifiers()
                    == (Modifier.PUBLIC | Modifier.STATIC | Modifier.FINAL)
                    && field.getType() == int.class && CONSTANTS.containsKey(field.getName());
            if (isConstant) {
                Check.due(field.getName(), field.getInt(null), CONSTANTS.get(field.getName()));
            } else {
                Check.fail("field " + field.getName() + " is none of the document's");
            }
        }
        Check.due("constants", found, 12);
    }

    private static void methods() {
        int found = 0;
        for (Method method : GroebnerFan.class.getDeclaredMethods()) {
            String name = method.getName();
            Integer due = PARAMETERS.get(name);
            if (Modifier.isPrivate(method.getModifiers())) {
                Check.due("private method named " + name, due == null ? 0 : 1, 0);
                continue;
            }
            found++;
            Check.due(name + " in the document", due == null ? 0 : 1, 1);
            Check.due(name + " is public alone", method.getModifiers(), Modifier.PUBLIC);
            Check.due(name + " takes", method.getParameterCount(), due == null ? -1 : due);
            boolean isInt = method.getReturnType() == int.class;
            for (Class<?> type : method.getParameterTypes()) {
                isInt &= type == int.class;
            }
            Check.due(name + " is of ints", isInt ? 1 : 0, 1);
        }
        Check.due("methods", found, 49);
        Check.due("methods due", PARAMETERS.size(), 49);
    }

    private static void classItself() {
        Check.due("class", GroebnerFan.class.getModifiers(), Modifier.PUBLIC | Modifier.FINAL);
        Constructor<?>[] constructors = GroebnerFan.class.getDeclaredConstructors();
        Check.due("1: constructors", constructors.length, 1);
        Check.due("1: public", constructors[0].getModifiers(), Modifier.PUBLIC);
        Check.due("1: parameters", constructors[0].getParameterCount(), 0);
    }

    public static void main(String[] args) throws IllegalAccessException {
        dueFace();
        constants();
        methods();
        classItself();
        Check.finish("FaceTest");
    }
}
