/**
 * The document's section on errors: "A call that reports an error leaves the state unchanged, except
 * that parsePoints always clears the input. When several errors apply, the one that is listed first
 * in the documentation of the method is reported. Methods whose names do not announce a change only
 * answer a question." Every error of every method is called forth on a new object, on an ordinary
 * one and on a full one, and all that the object holds is compared.
 */
public final class RefusalTest {
    private static final int NO = GroebnerFan.NO_SUCH_INDEX;
    private static final int BAD = GroebnerFan.BAD_VALUE;
    private static final int DUPLICATE = GroebnerFan.DUPLICATE_POINT;
    private static final int FULL = GroebnerFan.FULL;
    private static final int NONE = GroebnerFan.NONE;
    private static final int EMPTY = GroebnerFan.EMPTY_SLOT;
    private static final int WRONG = GroebnerFan.WRONG_TYPE;
    private static final int NEGATIVE = GroebnerFan.NEGATIVE_SIZE;
    private static final int LENGTH = GroebnerFan.LENGTH_MISMATCH;
    private static final int LEAST = Integer.MIN_VALUE;
    private static final int GREATEST = Integer.MAX_VALUE;
    private static final int[] NO_EXPONENTS = {-1, 9, LEAST, GREATEST};
    private static final int[] NO_SLOTS = {-1, 4, LEAST, GREATEST};
    private static final int[] NO_VALUES = {-1, 10000, LEAST, GREATEST};

    private final String name;
    private final Twins twins;
    private final int p;
    private final int points;
    private final int cones;

    private RefusalTest(String name, Twins.Maker maker) {
        this.name = name;
        twins = new Twins(maker);
        GroebnerFan fan = maker.make();
        p = fan.prime();
        points = fan.pointCount();
        cones = fan.coneCount();
    }

    /** Three points of x = y^2; the snapshot holds others, and the input is no list as yet. */
    private static GroebnerFan ordinary() {
        GroebnerFan fan = Fans.of(5, 4, 4);
        fan.setCoefficient(1, 1, 2);
        fan.saveSnapshot();
        fan.setPrime(7);
        Fans.parse(fan, "0,0;1,1;4,2");
        fan.setCoefficient(3, 2, 6);
        fan.storePolynomial(1);
        fan.setCoefficient(0, 8, 1);
        fan.newArray(0, 3);
        fan.setElement(0, 2, 9999);
        fan.newArray(3, 5);
        fan.setElement(3, 4, 1);
        fan.format(0, 0);
        Fans.appendAll(fan, "1,2;3");
        return fan;
    }

    /** All that an object can hold, but for slot 2. */
    private static GroebnerFan full() {
        GroebnerFan fan = Fans.of(31);
        Fans.parse(fan, "0,0;1,2;2,1;3,3;30,4;5,30;6,11;7,7");
        for (int k = 0; k < 81; k++) {
            fan.setCoefficient(k / 9, k % 9, 30 - k % 30);
        }
        fan.storePolynomial(1);
        fan.newArray(0, 20);
        for (int k = 0; k < 20; k++) {
            fan.setElement(0, k, 9999 - k);
        }
        fan.newArray(3, 0);
        fan.format(1, 1);
        fan.saveSnapshot();
        Fans.appendAll(fan, "20,0;9,1;9,2;9,3;9,4;9,5;9,6;9,7;9,8;9,9;8,0;8,1;8,2;8,3;8,4");
        return fan;
    }

    private void refuse(String call, Twins.Call refused, int due) {
        twins.unchanged(name + ": " + call, refused, due);
    }

    private void refusePoints() {
        for (int bad : new int[] {LEAST, -7, -1, 0, 1, 4, 6, 8, 9, 15, 25, 30, 32, 37, GREATEST}) {
            refuse("setPrime(" + bad + ")", fan -> fan.setPrime(bad), BAD);
        }
        for (int bad : new int[] {LEAST, -1, p, GREATEST}) {
            refuse("addPoint(" + bad + ", 0)", fan -> fan.addPoint(bad, 0), BAD);
            refuse("addPoint(0, " + bad + ")", fan -> fan.addPoint(0, bad), BAD);
            refuse("translate(" + bad + ", 1)", fan -> fan.translate(bad, 1), BAD);
            refuse("translate(1, " + bad + ")", fan -> fan.translate(1, bad), BAD);
            refuse("scale(" + bad + ", 2)", fan -> fan.scale(bad, 2), BAD);
            refuse("scale(2, " + bad + ")", fan -> fan.scale(2, bad), BAD);
        }
        refuse("scale(0, 2)", fan -> fan.scale(0, 2), BAD);
        refuse("scale(2, 0)", fan -> fan.scale(2, 0), BAD);
        for (int bad : new int[] {LEAST, -1, points, 8, GREATEST}) {
            refuse("removePoint(" + bad + ")", fan -> fan.removePoint(bad), NO);
            refuse("pointX(" + bad + ")", fan -> fan.pointX(bad), NO);
            refuse("pointY(" + bad + ")", fan -> fan.pointY(bad), NO);
            refuse("evaluate(" + bad + ")", fan -> fan.evaluate(bad), NO);
        }
    }

    private void refuseOrders() {
        int[][] orders = {
            {-1, 1, 0}, {100, 1, 0}, {LEAST, 1, 1}, {GREATEST, 1, 1}, {1, -1, 0}, {1, 100, 1},
            {1, LEAST, 0}, {1, GREATEST, 1}, {0, 0, 0}, {0, 0, 1}, {1, 1, -1}, {1, 1, 2},
            {1, 1, LEAST}, {1, 1, GREATEST}
        };
        for (int[] o : orders) {
            String order = o[0] + ", " + o[1] + ", " + o[2];
            refuse("columnHeight(" + order + ", 0)", fan -> fan.columnHeight(o[0], o[1], o[2], 0), BAD);
            refuse("columnHeight(" + order + ", 8)", fan -> fan.columnHeight(o[0], o[1], o[2], 8), BAD);
            refuse("columnHeight(" + order + ", 9)", fan -> fan.columnHeight(o[0], o[1], o[2], 9), NO);
            refuse("columnHeight(" + order + ", -1)",
                    fan -> fan.columnHeight(o[0], o[1], o[2], -1), NO);
            refuse("cornerCount(" + order + ")", fan -> fan.cornerCount(o[0], o[1], o[2]), BAD);
            refuse("corner(" + order + ", 0)", fan -> fan.corner(o[0], o[1], o[2], 0), BAD);
            refuse("corner(" + order + ", -1)", fan -> fan.corner(o[0], o[1], o[2], -1), BAD);
            refuse("corner(" + order + ", 9)", fan -> fan.corner(o[0], o[1], o[2], 9), BAD);
        }
        for (int bad : NO_EXPONENTS) {
            refuse("columnHeight(2, 3, 0, " + bad + ")", fan -> fan.columnHeight(2, 3, 0, bad), NO);
            refuse("corner(2, 3, 0, " + bad + ")", fan -> fan.corner(2, 3, 0, bad), NO);
        }
        refuse("the corner behind the last",
                fan -> fan.corner(2, 3, 0, fan.cornerCount(2, 3, 0)), NO);
        for (int[] w : new int[][] {{0, 0}, {-1, 1}, {1, -1}, {100, 1}, {1, 100}, {LEAST, GREATEST}}) {
            String weight = w[0] + ", " + w[1];
            refuse("firstConeContaining(" + weight + ")",
                    fan -> fan.firstConeContaining(w[0], w[1]), BAD);
            refuse("conesContaining(" + weight + ")", fan -> fan.conesContaining(w[0], w[1]), BAD);
        }
    }

    private void refuseCones() {
        for (int bad : new int[] {LEAST, -1, cones, 22, GREATEST}) {
            refuse("wallNumerator(" + bad + ")", fan -> fan.wallNumerator(bad), NO);
            refuse("wallDenominator(" + bad + ")", fan -> fan.wallDenominator(bad), NO);
            refuse("coneHeight(" + bad + ", 0)", fan -> fan.coneHeight(bad, 0), NO);
            refuse("basisSize(" + bad + ")", fan -> fan.basisSize(bad), NO);
            refuse("basisCorner(" + bad + ", 0)", fan -> fan.basisCorner(bad, 0), NO);
            refuse("basisCoefficient(" + bad + ", 0, 0, 0)",
                    fan -> fan.basisCoefficient(bad, 0, 0, 0), NO);
            refuse("changedCorners(" + bad + ")", fan -> fan.changedCorners(bad), NO);
            refuse("mirroredCone(" + bad + ")", fan -> fan.mirroredCone(bad), NO);
            refuse("reduceToNormalForm(" + bad + ")", fan -> fan.reduceToNormalForm(bad), NO);
            refuse("loadBasisPolynomial(" + bad + ", 0)", fan -> fan.loadBasisPolynomial(bad, 0), NO);
            refuse("format(" + bad + ", 0)", fan -> fan.format(bad, 0), NO);
        }
        refuse("the last cone's numerator", fan -> fan.wallNumerator(cones - 1), NONE);
        refuse("the last cone's denominator", fan -> fan.wallDenominator(cones - 1), NONE);
        refuse("the last cone's changed corners", fan -> fan.changedCorners(cones - 1), NONE);
        for (int bad : NO_EXPONENTS) {
            refuse("coneHeight(0, " + bad + ")", fan -> fan.coneHeight(0, bad), NO);
            refuse("basisCorner(0, " + bad + ")", fan -> fan.basisCorner(0, bad), NO);
            refuse("basisCoefficient(0, " + bad + ", 0, 0)",
                    fan -> fan.basisCoefficient(0, bad, 0, 0), NO);
            refuse("basisCoefficient(0, 0, " + bad + ", 0)",
                    fan -> fan.basisCoefficient(0, 0, bad, 0), NO);
            refuse("basisCoefficient(0, 0, 0, " + bad + ")",
                    fan -> fan.basisCoefficient(0, 0, 0, bad), NO);
            refuse("loadBasisPolynomial(0, " + bad + ")", fan -> fan.loadBasisPolynomial(0, bad), NO);
            refuse("format(0, " + bad + ")", fan -> fan.format(0, bad), NO);
            refuse("setCoefficient(" + bad + ", 0, 1)", fan -> fan.setCoefficient(bad, 0, 1), NO);
            refuse("setCoefficient(0, " + bad + ", 1)", fan -> fan.setCoefficient(0, bad, 1), NO);
            refuse("coefficient(" + bad + ", 0)", fan -> fan.coefficient(bad, 0), NO);
            refuse("coefficient(0, " + bad + ")", fan -> fan.coefficient(0, bad), NO);
        }
        refuse("the polynomial behind the last",
                fan -> fan.loadBasisPolynomial(0, fan.basisSize(0)), NO);
        refuse("the text of the polynomial behind the last",
                fan -> fan.format(0, fan.basisSize(0)), NO);
    }

    private void refuseSlotsThatAreNone() {
        for (int bad : NO_SLOTS) {
            refuse("newArray(" + bad + ", 1)", fan -> fan.newArray(bad, 1), NO);
            refuse("newArray(" + bad + ", 21)", fan -> fan.newArray(bad, 21), NO);
            refuse("newArray(" + bad + ", -1)", fan -> fan.newArray(bad, -1), NO);
            refuse("setElement(" + bad + ", 0, 1)", fan -> fan.setElement(bad, 0, 1), NO);
            refuse("setElement(" + bad + ", 0, -1)", fan -> fan.setElement(bad, 0, -1), NO);
            refuse("element(" + bad + ", 0)", fan -> fan.element(bad, 0), NO);
            refuse("storePolynomial(" + bad + ")", fan -> fan.storePolynomial(bad), NO);
            refuse("loadPolynomial(" + bad + ")", fan -> fan.loadPolynomial(bad), NO);
            refuse("clearSlot(" + bad + ")", fan -> fan.clearSlot(bad), NO);
            refuse("firstDifference(" + bad + ", 0)", fan -> fan.firstDifference(bad, 0), NO);
            refuse("firstDifference(" + bad + ", -1)", fan -> fan.firstDifference(bad, -1), NO);
            refuse("interpolate(0, " + bad + ")", fan -> fan.interpolate(0, bad), NO);
            refuse("interpolate(-1, " + bad + ")", fan -> fan.interpolate(-1, bad), NO);
        }
        for (int slot = 0; slot < 4; slot++) {
            int s = slot;
            refuse("newArray(" + s + ", 21)", fan -> fan.newArray(s, 21), BAD);
            refuse("newArray(" + s + ", greatest)", fan -> fan.newArray(s, GREATEST), BAD);
            refuse("newArray(" + s + ", -1)", fan -> fan.newArray(s, -1), NEGATIVE);
            refuse("newArray(" + s + ", least)", fan -> fan.newArray(s, LEAST), NEGATIVE);
            // Whatever the slot holds, the value and the cone are looked at first.
            for (int bad : NO_VALUES) {
                refuse("setElement(" + s + ", 0, " + bad + ")", fan -> fan.setElement(s, 0, bad), BAD);
                refuse("setElement(" + s + ", -1, " + bad + ")",
                        fan -> fan.setElement(s, -1, bad), BAD);
            }
            for (int bad : new int[] {-1, cones, LEAST, GREATEST}) {
                refuse("interpolate(" + bad + ", " + s + ")", fan -> fan.interpolate(bad, s), NO);
                refuse("firstDifference(" + s + ", " + bad + ")",
                        fan -> fan.firstDifference(s, bad), NO);
            }
        }
    }

    /** A slot that holds nothing, or a polynomial: its state is looked at ahead of the element. */
    private void refuseAsArray(int slot, int due) {
        for (int index : new int[] {0, -1, 20, 81, LEAST, GREATEST}) {
            refuse("setElement(" + slot + ", " + index + ", 1)",
                    fan -> fan.setElement(slot, index, 1), due);
            refuse("element(" + slot + ", " + index + ")", fan -> fan.element(slot, index), due);
        }
        refuse("interpolate(0, " + slot + ")", fan -> fan.interpolate(0, slot), due);
        refuse("firstDifference(" + slot + ", 0)", fan -> fan.firstDifference(slot, 0), due);
    }

    private void refuseElements(int slot, int length) {
        for (int index : new int[] {-1, length, 20, 81, LEAST, GREATEST}) {
            refuse("setElement(" + slot + ", " + index + ", 1)",
                    fan -> fan.setElement(slot, index, 1), NO);
            refuse("element(" + slot + ", " + index + ")", fan -> fan.element(slot, index), NO);
        }
        refuse("loadPolynomial(" + slot + ")", fan -> fan.loadPolynomial(slot), WRONG);
        if (length != points) {
            refuse("interpolate(0, " + slot + ")", fan -> fan.interpolate(0, slot), LENGTH);
        }
    }

    private void refuseText() {
        for (int bad : new int[] {LEAST, -1, 0, 128, GREATEST}) {
            refuse("appendInput(" + bad + ")", fan -> fan.appendInput(bad), BAD);
        }
        refuse("outputByte(-1)", fan -> fan.outputByte(-1), NO);
        refuse("outputByte(least)", fan -> fan.outputByte(LEAST), NO);
        refuse("outputByte(greatest)", fan -> fan.outputByte(GREATEST), NO);
        refuse("the byte behind the output", fan -> fan.outputByte(Fans.output(fan).length()), NO);
    }

    private void questions() {
        String say = name + ": the question ";
        twins.unchanged(say + "prime", fan -> fan.prime());
        twins.unchanged(say + "pointCount", fan -> fan.pointCount());
        twins.unchanged(say + "pointX", fan -> fan.pointX(0));
        twins.unchanged(say + "pointY", fan -> fan.pointY(0));
        twins.unchanged(say + "columnHeight", fan -> fan.columnHeight(3, 1, 0, 0));
        twins.unchanged(say + "cornerCount", fan -> fan.cornerCount(3, 1, 1));
        twins.unchanged(say + "corner", fan -> fan.corner(0, 1, 1, 0));
        twins.unchanged(say + "coneCount", fan -> fan.coneCount());
        twins.unchanged(say + "wallNumerator", fan -> fan.wallNumerator(0));
        twins.unchanged(say + "wallDenominator", fan -> fan.wallDenominator(0));
        twins.unchanged(say + "firstConeContaining", fan -> fan.firstConeContaining(1, 1));
        twins.unchanged(say + "conesContaining", fan -> fan.conesContaining(1, 1));
        twins.unchanged(say + "coneHeight", fan -> fan.coneHeight(0, 0));
        twins.unchanged(say + "basisSize", fan -> fan.basisSize(0));
        twins.unchanged(say + "basisCorner", fan -> fan.basisCorner(0, 0));
        twins.unchanged(say + "basisCoefficient", fan -> fan.basisCoefficient(0, 0, 0, 0));
        twins.unchanged(say + "changedCorners", fan -> fan.changedCorners(0));
        twins.unchanged(say + "universalSize", fan -> fan.universalSize());
        twins.unchanged(say + "universalDegree", fan -> fan.universalDegree());
        twins.unchanged(say + "mirroredCone", fan -> fan.mirroredCone(0));
        twins.unchanged(say + "flattestCone", fan -> fan.flattestCone());
        twins.unchanged(say + "coefficient", fan -> fan.coefficient(0, 8));
        twins.unchanged(say + "termCount", fan -> fan.termCount());
        twins.unchanged(say + "evaluate", fan -> fan.evaluate(0));
        twins.unchanged(say + "isVanishing", fan -> fan.isVanishing());
        twins.unchanged(say + "inputLength", fan -> fan.inputLength());
        twins.unchanged(say + "outputByte", fan -> fan.outputByte(0));
        twins.unchanged(say + "element", fan -> fan.element(0, 0));
        twins.unchanged(say + "firstDifference", fan -> fan.firstDifference(0, 0));
    }

    private void all() {
        refusePoints();
        refuseOrders();
        refuseCones();
        refuseSlotsThatAreNone();
        refuseText();
        questions();
    }

    private static void onNewObject() {
        RefusalTest test = new RefusalTest("new object", GroebnerFan::new);
        test.all();
        for (int slot = 0; slot < 4; slot++) {
            int s = slot;
            test.refuseAsArray(s, EMPTY);
            test.refuse("loadPolynomial(" + s + ")", fan -> fan.loadPolynomial(s), EMPTY);
        }
        test.refuse("restoreSnapshot()", fan -> fan.restoreSnapshot(), NONE);
        test.refuse("parsePoints()", fan -> fan.parsePoints(), GroebnerFan.SYNTAX_ERROR);
        test.refuse("outputByte(0)", fan -> fan.outputByte(0), NO);
        test.twins.unchanged("new object: clearSlot(0)", fan -> fan.clearSlot(0), 0);
    }

    private static void onOrdinaryObject() {
        RefusalTest test = new RefusalTest("ordinary object", RefusalTest::ordinary);
        Check.due("the ordinary object's points", test.points, 3);
        Check.due("the ordinary object's cones", test.cones, 3);
        test.all();
        test.refuseElements(0, 3);
        test.refuseElements(3, 5);
        test.refuseAsArray(1, WRONG);
        test.refuseAsArray(2, EMPTY);
        test.refuse("loadPolynomial(2)", fan -> fan.loadPolynomial(2), EMPTY);
        test.refuse("addPoint(4, 2)", fan -> fan.addPoint(4, 2), DUPLICATE);
        test.refuse("addPoint(0, 0)", fan -> fan.addPoint(0, 0), DUPLICATE);
        // The syntax error clears the input, and nothing else changes.
        test.refuse("an input set back after parsePoints()", fan -> {
            int answer = fan.parsePoints();
            Check.due("a syntax error clears the input", fan.inputLength(), 0);
            Fans.appendAll(fan, "1,2;3");
            return answer;
        }, GroebnerFan.SYNTAX_ERROR - 5);
    }

    private static void onFullObject() {
        RefusalTest test = new RefusalTest("full object", RefusalTest::full);
        Check.due("the full object's points", test.points, 8);
        Check.due("the full object's terms", full().termCount(), 81);
        Check.due("the full object's input", full().inputLength(), 60);
        test.all();
        test.refuseElements(0, 20);
        test.refuseElements(3, 0);
        test.refuseAsArray(1, WRONG);
        test.refuseAsArray(2, EMPTY);
        test.refuse("loadPolynomial(2)", fan -> fan.loadPolynomial(2), EMPTY);
        test.refuse("a ninth point", fan -> fan.addPoint(30, 30), FULL);
        test.refuse("the eighth point again", fan -> fan.addPoint(7, 7), DUPLICATE);
        test.refuse("a byte more", fan -> fan.appendInput(1), FULL);
        test.refuse("a byte more", fan -> fan.appendInput(127), FULL);
        test.twins.alike("full object: all points of an input are passed over, and it is cleared",
                fan -> fan.parsePoints(), fan -> clearInputByOtherMeans(fan));
    }

    /** The same list with 60 bytes, read while there is no room for its points. */
    private static int clearInputByOtherMeans(GroebnerFan fan) {
        fan.saveSnapshot();
        fan.parsePoints();
        fan.appendInput(';');
        int answer = fan.parsePoints();
        fan.restoreSnapshot();
        return answer;
    }

    public static void main(String[] args) {
        onNewObject();
        onOrdinaryObject();
        onFullObject();
        Check.finish("RefusalTest");
    }
}
