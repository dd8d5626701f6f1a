/** Promises 29 to 36: the current polynomial. FanTest works the points' bases out by hand. */
public final class PolynomialTest {
    private static final int NO = GroebnerFan.NO_SUCH_INDEX;
    private static final int[] FAR = {-1, 9, 81, Integer.MAX_VALUE, Integer.MIN_VALUE};

    private PolynomialTest() {
    }

    private static GroebnerFan parabola() {
        return Fans.of(7, 0, 0, 1, 1, 4, 2);
    }

    private static void array(GroebnerFan fan, int slot, int... elements) {
        fan.newArray(slot, elements.length);
        for (int k = 0; k < elements.length; k++) {
            fan.setElement(slot, k, elements[k]);
        }
    }

    private static void setCoefficient() {
        GroebnerFan fan = new GroebnerFan();
        Check.due("29: first", fan.setCoefficient(2, 1, 9), 0);
        Check.due("30: reduced", fan.coefficient(2, 1), 2);
        Check.due("29: previous", fan.setCoefficient(2, 1, -1), 2);
        Check.due("30: negative", fan.coefficient(2, 1), 6);
        Check.due("30: not the mirrored one", fan.coefficient(1, 2), 0);
        int[][] values = {
            {7, 0}, {-7, 0}, {-8, 6}, {6, 6}, {-6, 1}, {0, 0}, {700001, 1},
            {Integer.MAX_VALUE, 1}, {Integer.MIN_VALUE, 5}
        };
        int previous = 6;
        for (int[] value : values) {
            Check.due("29: " + value[0], fan.setCoefficient(2, 1, value[0]), previous);
            Check.due("30: " + value[0], fan.coefficient(2, 1), value[1]);
            previous = value[1];
        }
        fan.setCoefficient(8, 8, 3);
        fan.setCoefficient(0, 0, 4);
        fan.setCoefficient(8, 0, 5);
        fan.setCoefficient(0, 8, 6);
        Check.due("30: at the edges", Fans.polynomial(fan), "4x0y0 6x0y8 5x2y1 5x8y0 3x8y8");
        for (int bad : FAR) {
            Check.due("29: i " + bad, fan.setCoefficient(bad, 0, 1), NO);
            Check.due("29: j " + bad, fan.setCoefficient(0, bad, 1), NO);
            Check.due("30: i " + bad, fan.coefficient(bad, 0), NO);
            Check.due("30: j " + bad, fan.coefficient(0, bad), NO);
        }
        Check.due("29: refusals change nothing", Fans.polynomial(fan),
                "4x0y0 6x0y8 5x2y1 5x8y0 3x8y8");
        GroebnerFan two = Fans.of(2);
        two.setCoefficient(0, 0, -1);
        Check.due("29: -1 over GF(2)", two.coefficient(0, 0), 1);
        GroebnerFan great = Fans.of(31);
        great.setCoefficient(0, 0, Integer.MIN_VALUE);
        Check.due("29: smallest int over GF(31)", great.coefficient(0, 0), 29);
    }

    private static void termCount() {
        GroebnerFan fan = new GroebnerFan();
        Check.due("31: zero polynomial", fan.termCount(), 0);
        for (int i = 0; i <= 8; i++) {
            for (int j = 0; j <= 8; j++) {
                fan.setCoefficient(i, j, 1 + (i + j) % 6);
                Check.due("31: rising", fan.termCount(), 9 * i + j + 1);
            }
        }
        fan.setCoefficient(4, 4, 14);
        Check.due("31: one is 0 again", fan.termCount(), 80);
    }

    private static void evaluate() {
        GroebnerFan fan = Fans.of(7, 0, 0, 3, 5, 0, 2, 6, 0);
        Check.due("32: zero polynomial", fan.evaluate(1), 0);
        fan.setCoefficient(0, 0, 4);
        Check.due("32: 0 to the power 0 is 1", fan.evaluate(0), 4);
        fan.setCoefficient(2, 1, 2);
        // 4 + 2 * 9 * 5 = 94 = 3
        Check.due("32: at (3, 5)", fan.evaluate(1), 3);
        Check.due("32: at (0, 2)", fan.evaluate(2), 4);
        fan.setCoefficient(0, 8, 1);
        // 3 + 5^8 = 3 + 25 = 28 = 0; 4 + 2^8 = 260 = 1
        Check.due("32: y^8 at (3, 5)", fan.evaluate(1), 0);
        Check.due("32: y^8 at (0, 2)", fan.evaluate(2), 1);
        fan.setCoefficient(8, 0, 3);
        // 3 * 3^8 = 3 * 9 = 27 = 6; 4 + 3 * 36 = 112 = 0
        Check.due("32: x^8 at (3, 5)", fan.evaluate(1), 6);
        Check.due("32: x^8 at (6, 0)", fan.evaluate(3), 0);
        for (int index : new int[] {-1, 4, 8, Integer.MAX_VALUE, Integer.MIN_VALUE}) {
            Check.due("32: evaluate(" + index + ")", fan.evaluate(index), NO);
        }
        Check.due("32: without points", new GroebnerFan().evaluate(0), NO);
        GroebnerFan full = Fans.of(31, 30, 30);
        for (int k = 0; k < 81; k++) {
            full.setCoefficient(k / 9, k % 9, 30);
        }
        // The alternating sum of 81 terms is 1, times -1.
        Check.due("32: all terms at (-1, -1)", full.evaluate(0), 30);
    }

    private static void isVanishing() {
        GroebnerFan fan = parabola();
        Check.due("33: zero polynomial", fan.isVanishing(), 1);
        fan.setCoefficient(1, 0, 1);
        Check.due("33: x", fan.isVanishing(), 0);
        fan.setCoefficient(0, 2, -1);
        Check.due("33: x - y^2", fan.isVanishing(), 1);
        fan.addPoint(1, 2);
        Check.due("33: with a point elsewhere", fan.isVanishing(), 0);
        Check.due("32: at that point", fan.evaluate(3), 4);
        fan.removePoint(3);
        Check.due("33: without it", fan.isVanishing(), 1);
        GroebnerFan none = new GroebnerFan();
        none.setCoefficient(0, 0, 1);
        Check.due("33: without points", none.isVanishing(), 1);
        none.addPoint(0, 0);
        Check.due("33: 1 at (0, 0)", none.isVanishing(), 0);
    }

    private static void reduceToNormalForm() {
        GroebnerFan fan = parabola();
        fan.setCoefficient(1, 1, 1);
        fan.storePolynomial(0);
        // y^3 = 3 y^2 + 5 y on x = y^2
        Check.due("34: x y for cone 0", fan.reduceToNormalForm(0), 2);
        Check.due("34: x y for cone 0", Fans.polynomial(fan), "5x0y1 3x0y2");
        Check.due("34: again", fan.reduceToNormalForm(0), 2);
        Check.due("34: again", Fans.polynomial(fan), "5x0y1 3x0y2");
        fan.loadPolynomial(0);
        Check.due("34: x y for cone 1", fan.reduceToNormalForm(1), 2);
        Check.due("34: x y for cone 1", Fans.polynomial(fan), "5x0y1 3x1y0");
        fan.loadPolynomial(0);
        // y = x^2 and x^3 = 5 x^2 + 3 x there
        Check.due("34: x y for cone 2", fan.reduceToNormalForm(2), 2);
        Check.due("34: x y for cone 2", Fans.polynomial(fan), "3x1y0 5x2y0");
        for (int cone : new int[] {-1, 3, 22, Integer.MAX_VALUE, Integer.MIN_VALUE}) {
            Check.due("34: cone " + cone, fan.reduceToNormalForm(cone), NO);
        }
        Check.due("34: refusals change nothing", Fans.polynomial(fan), "3x1y0 5x2y0");
        fan.setCoefficient(0, 0, 6);
        Check.due("34: with 6", fan.reduceToNormalForm(0), 3);
        Check.due("34: with 6", Fans.polynomial(fan), "6x0y0 5x0y1 3x0y2");
        fan.loadBasisPolynomial(1, 2);
        Check.due("34: a vanishing polynomial", fan.reduceToNormalForm(0), 0);
        GroebnerFan none = new GroebnerFan();
        none.setCoefficient(3, 3, 1);
        Check.due("34: without points", none.reduceToNormalForm(0), 0);
        Check.due("34: without points", Fans.polynomial(none), "");
        none.setCoefficient(3, 3, 1);
        Check.due("34: without points, no cone 1", none.reduceToNormalForm(1), NO);
        Check.due("34: without points, no cone 1", none.termCount(), 1);
    }

    private static void interpolate() {
        GroebnerFan fan = parabola();
        array(fan, 1, 10, 8, 9999);
        // Values 3, 1, 3: 3 + b + c = 1 and 3 + 2 b + 4 c = 3 give c = 2 and b = 3.
        Check.due("35: cone 0", fan.interpolate(0, 1), 3);
        Check.due("35: cone 0", Fans.polynomial(fan), "3x0y0 3x0y1 2x0y2");
        Check.due("35: value 0", fan.evaluate(0), 3);
        Check.due("35: value 1", fan.evaluate(1), 1);
        Check.due("35: value 2", fan.evaluate(2), 3);
        Check.due("35: cone 1", fan.interpolate(1, 1), 3);
        Check.due("35: cone 1", Fans.polynomial(fan), "3x0y0 3x0y1 2x1y0");
        Check.due("35: cone 2", fan.interpolate(2, 1), 3);
        Check.due("35: cone 2", Fans.polynomial(fan), "3x0y0 2x1y0 3x2y0");
        Check.due("35: the array stays", fan.element(1, 2), 9999);
        array(fan, 2, 7, 14, 0);
        Check.due("35: zeros", fan.interpolate(1, 2), 0);
        Check.due("35: zeros", Fans.polynomial(fan), "");
        GroebnerFan none = new GroebnerFan();
        none.setCoefficient(0, 0, 1);
        none.newArray(0, 0);
        Check.due("35: without points", none.interpolate(0, 0), 0);
        Check.due("35: without points", none.termCount(), 0);
        none.newArray(0, 1);
        Check.due("35: without points, length 1", none.interpolate(0, 0),
                GroebnerFan.LENGTH_MISMATCH);
    }

    private static void interpolateErrors() {
        GroebnerFan fan = parabola();
        fan.setCoefficient(5, 5, 2);
        fan.storePolynomial(2);
        array(fan, 1, 1, 2, 3);
        array(fan, 0, 1, 2);
        for (int bad : new int[] {-1, 4, Integer.MAX_VALUE, Integer.MIN_VALUE}) {
            Check.due("35: slot " + bad, fan.interpolate(0, bad), NO);
            Check.due("35: cone and slot " + bad, fan.interpolate(bad, bad), NO);
            Check.due("35: cone " + bad, fan.interpolate(bad, 1), NO);
            Check.due("35: cone ahead of the slot's state", fan.interpolate(bad, 3), NO);
            Check.due("35: cone ahead of the slot's type", fan.interpolate(bad, 2), NO);
            Check.due("35: cone ahead of the length", fan.interpolate(bad, 0), NO);
        }
        Check.due("35: cone 3", fan.interpolate(3, 1), NO);
        Check.due("35: empty", fan.interpolate(0, 3), GroebnerFan.EMPTY_SLOT);
        Check.due("35: a polynomial", fan.interpolate(0, 2), GroebnerFan.WRONG_TYPE);
        Check.due("35: too short", fan.interpolate(0, 0), GroebnerFan.LENGTH_MISMATCH);
        array(fan, 0, 1, 2, 3, 4);
        Check.due("35: too long", fan.interpolate(0, 0), GroebnerFan.LENGTH_MISMATCH);
        Check.due("35: refusals change nothing", Fans.polynomial(fan), "2x5y5");
    }

    private static void loadBasisPolynomial() {
        GroebnerFan fan = parabola();
        fan.setCoefficient(8, 8, 1);
        Check.due("36: y^3 + ..", fan.loadBasisPolynomial(0, 0), 3);
        Check.due("36: y^3 + ..", Fans.polynomial(fan), "2x0y1 4x0y2 1x0y3");
        Check.due("36: x y + ..", fan.loadBasisPolynomial(1, 1), 3);
        Check.due("36: x y + ..", Fans.polynomial(fan), "2x0y1 4x1y0 1x1y1");
        Check.due("36: x^3 + ..", fan.loadBasisPolynomial(2, 1), 3);
        Check.due("36: x^3 + ..", Fans.polynomial(fan), "4x1y0 2x2y0 1x3y0");
        Check.due("36: it vanishes", fan.isVanishing(), 1);
        fan.setCoefficient(0, 0, 1);
        Check.due("36: the basis is not touched", fan.basisCoefficient(2, 1, 0, 0), 0);
        String before = Fans.polynomial(fan);
        for (int bad : FAR) {
            Check.due("36: cone " + bad, fan.loadBasisPolynomial(bad, 0), NO);
            Check.due("36: index " + bad, fan.loadBasisPolynomial(0, bad), NO);
        }
        Check.due("36: behind the last cone", fan.loadBasisPolynomial(3, 0), NO);
        Check.due("36: behind the last polynomial", fan.loadBasisPolynomial(0, 2), NO);
        Check.due("36: refusals change nothing", Fans.polynomial(fan), before);
        GroebnerFan none = new GroebnerFan();
        Check.due("36: without points", none.loadBasisPolynomial(0, 0), 1);
        Check.due("36: without points", Fans.polynomial(none), "1x0y0");
    }

    public static void main(String[] args) {
        setCoefficient();
        termCount();
        evaluate();
        isVanishing();
        reduceToNormalForm();
        interpolate();
        interpolateErrors();
        loadBasisPolynomial();
        Check.finish("PolynomialTest");
    }
}
