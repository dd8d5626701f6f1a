/** Promises 29 to 36: the sentences of the document that name a boundary case, each by itself. */
public final class PolynomialEdgesTest {
    private static final int NO = GroebnerFan.NO_SUCH_INDEX;
    private static final int EMPTY = GroebnerFan.EMPTY_SLOT;
    private static final int WRONG = GroebnerFan.WRONG_TYPE;
    private static final int MISMATCH = GroebnerFan.LENGTH_MISMATCH;
    private static final int LEAST = Integer.MIN_VALUE;
    private static final int GREATEST = Integer.MAX_VALUE;
    private static final int[] PRIMES = {2, 3, 5, 7, 11, 13, 17, 19, 23, 29, 31};
    private static final int[] NO_EXPONENTS = {-1, 9, 10, 81, LEAST, GREATEST};

    private PolynomialEdgesTest() {
    }

    private static GroebnerFan eight() {
        return Fans.of(31, 0, 0, 1, 2, 2, 1, 3, 3, 30, 4, 5, 30, 6, 11, 7, 7);
    }

    private static void fill(GroebnerFan fan, int value) {
        for (int k = 0; k < 81; k++) {
            fan.setCoefficient(k / 9, k % 9, value);
        }
    }

    private static void array(GroebnerFan fan, int slot, int length, int value) {
        fan.newArray(slot, length);
        for (int k = 0; k < length; k++) {
            fan.setElement(slot, k, value);
        }
    }

    private static void values() {
        Check.about("any integer; it is reduced modulo p to a number from 0 to p - 1");
        for (int p : PRIMES) {
            GroebnerFan fan = Fans.of(p);
            int[] values = {0, 1, p - 1, p, p + 1, 2 * p - 1, -1, -p + 1, -p, -p - 1, GREATEST, LEAST};
            int[] due = {
                0, 1, p - 1, 0, 1, p - 1, p - 1, 1, 0, p - 1, Math.floorMod(GREATEST, p),
                Math.floorMod(LEAST, p)
            };
            int previous = 0;
            for (int k = 0; k < values.length; k++) {
                String call = values[k] + " modulo " + p;
                Check.due("before " + call, fan.setCoefficient(4, 4, values[k]), previous);
                Check.due(call, fan.coefficient(4, 4), due[k]);
                Check.due("terms with " + call, fan.termCount(), due[k] == 0 ? 0 : 1);
                previous = due[k];
            }
        }
        Check.about("Values become numbers from 0 to p - 1.");
        // 2147483647 = 7 * 306783378 + 1, and -2147483648 = -7 * 306783379 + 5
        GroebnerFan seven = new GroebnerFan();
        seven.setCoefficient(0, 0, GREATEST);
        seven.setCoefficient(0, 1, LEAST);
        Check.due("the greatest and the least", Fans.polynomial(seven), "1x0y0 5x0y1");
    }

    private static void exponents() {
        Check.about("A monomial x^i y^j has exponents i and j from 0 to 8.");
        GroebnerFan fan = Fans.of(31);
        Check.due("x^0 y^0", fan.setCoefficient(0, 0, 1), 0);
        Check.due("x^8 y^0", fan.setCoefficient(8, 0, 2), 0);
        Check.due("x^0 y^8", fan.setCoefficient(0, 8, 3), 0);
        Check.due("x^8 y^8", fan.setCoefficient(8, 8, 4), 0);
        Check.due("all corners", Fans.polynomial(fan), "1x0y0 3x0y8 2x8y0 4x8y8");
        Check.about("Returns the previous coefficient; NO_SUCH_INDEX if an exponent is out of range.");
        Check.due("previous at x^8 y^8", fan.setCoefficient(8, 8, 5), 4);
        for (int bad : NO_EXPONENTS) {
            Check.due("x^" + bad, fan.setCoefficient(bad, 8, 1), NO);
            Check.due("y^" + bad, fan.setCoefficient(8, bad, 1), NO);
            Check.due("both " + bad, fan.setCoefficient(bad, bad, 1), NO);
        }
        Check.due("refusals change nothing", Fans.polynomial(fan), "1x0y0 3x0y8 2x8y0 5x8y8");
        Check.about("Returns the coefficient; NO_SUCH_INDEX if an exponent is out of range.");
        Check.due("at x^8 y^8", fan.coefficient(8, 8), 5);
        Check.due("at x^8 y^7", fan.coefficient(8, 7), 0);
        for (int bad : NO_EXPONENTS) {
            Check.due("x^" + bad, fan.coefficient(bad, 8), NO);
            Check.due("y^" + bad, fan.coefficient(8, bad), NO);
            Check.due("both " + bad, fan.coefficient(bad, bad), NO);
        }
    }

    private static void termCount() {
        Check.about("Returns the number of nonzero coefficients.");
        GroebnerFan fan = new GroebnerFan();
        Check.due("none", fan.termCount(), 0);
        fill(fan, 6);
        Check.due("all", fan.termCount(), 81);
        fan.setCoefficient(8, 8, 7);
        Check.due("all but one", fan.termCount(), 80);
        fill(fan, -7);
        Check.due("none again", fan.termCount(), 0);
    }

    private static void evaluate() {
        Check.about("0 to the power 0 is 1.");
        GroebnerFan fan = Fans.of(7, 0, 0, 0, 3, 3, 0);
        fan.setCoefficient(0, 0, 5);
        Check.due("5 at (0, 0)", fan.evaluate(0), 5);
        fan.setCoefficient(0, 0, 0);
        fan.setCoefficient(0, 8, 1);
        // 3^8 = 9 = 2 over GF(7)
        Check.due("x^0 y^8 at (0, 3)", fan.evaluate(1), 2);
        Check.due("x^0 y^8 at (3, 0)", fan.evaluate(2), 0);
        fan.setCoefficient(0, 8, 0);
        fan.setCoefficient(8, 0, 1);
        Check.due("x^8 y^0 at (0, 3)", fan.evaluate(1), 0);
        Check.due("x^8 y^0 at (3, 0)", fan.evaluate(2), 2);
        Check.due("x^8 y^0 at (0, 0)", fan.evaluate(0), 0);
        Check.about("Returns the value; NO_SUCH_INDEX if there is no such point.");
        GroebnerFan full = eight();
        fill(full, 30);
        // At (0, 0) the constant alone counts: -1. At (3, 3) it is -(1 + 3 + .. + 3^8)^2 = -14^2.
        Check.due("point 0", full.evaluate(0), 30);
        Check.due("point 3", full.evaluate(3), 21);
        // 1 + 7 + .. + 7^8 = (7^9 - 1) / 6, 7^9 = 8 over GF(31), and 7 / 6 = 7 * 26 = 27: -27^2 = -16
        Check.due("point 7", full.evaluate(7), 15);
        for (int bad : new int[] {-1, 8, LEAST, GREATEST}) {
            Check.due("point " + bad, full.evaluate(bad), NO);
        }
        full.removePoint(7);
        Check.due("point 7 of seven", full.evaluate(7), NO);
        Check.due("no points", new GroebnerFan().evaluate(0), NO);
    }

    private static void isVanishing() {
        Check.about("Without points every polynomial is.");
        GroebnerFan none = new GroebnerFan();
        Check.due("0", none.isVanishing(), 1);
        none.setCoefficient(0, 0, 1);
        Check.due("1", none.isVanishing(), 1);
        fill(none, 6);
        Check.due("81 terms", none.isVanishing(), 1);
        Check.about("Returns 1 if it is, otherwise 0.");
        GroebnerFan full = eight();
        Check.due("0 at 8 points", full.isVanishing(), 1);
        full.setCoefficient(0, 0, 1);
        Check.due("1 at 8 points", full.isVanishing(), 0);
        // It is 0 at all points but the last.
        GroebnerFan last = Fans.of(31, 0, 1, 0, 2, 0, 3, 0, 4, 0, 5, 0, 6, 0, 7, 1, 0);
        last.setCoefficient(1, 0, 1);
        Check.due("x, not 0 at the last alone", last.isVanishing(), 0);
        last.removePoint(7);
        Check.due("x without the last", last.isVanishing(), 1);
    }

    private static void reduceToNormalForm() {
        Check.about("normal forms and interpolated polynomials are 0.");
        GroebnerFan none = new GroebnerFan();
        fill(none, 1);
        Check.due("a cone that is none", none.reduceToNormalForm(1), NO);
        Check.due("stays", none.termCount(), 81);
        Check.due("81 terms without points", none.reduceToNormalForm(0), 0);
        Check.due("81 terms without points", none.termCount(), 0);
        Check.due("0 without points", none.reduceToNormalForm(0), 0);
        Check.about("The normal form is the polynomial that uses only standard monomials of the cone and"
                + " has the same value at every point.");
        GroebnerFan fan = eight();
        int last = fan.coneCount() - 1;
        for (int cone = 0; cone <= last; cone++) {
            fill(fan, 17 + cone);
            String values = values(fan);
            Check.due("terms of cone " + cone, fan.reduceToNormalForm(cone), fan.termCount());
            Check.due("values of cone " + cone, values(fan), values);
            Check.due("other terms in cone " + cone, termsThatAreNotStandard(fan, cone), 0);
        }
        Check.due("0 at 8 points", Fans.of(7, 0, 0).reduceToNormalForm(0), 0);
        Check.about("Returns the new number of nonzero coefficients; NO_SUCH_INDEX if there is no such"
                + " cone.");
        for (int bad : new int[] {-1, last + 1, LEAST, GREATEST}) {
            Check.due("cone " + bad, fan.reduceToNormalForm(bad), NO);
        }
        GroebnerFan one = Fans.of(31, 30, 30);
        fill(one, 1);
        // 1 + x + .. at x = -1 is 1, and so at (-1, -1)
        Check.due("one point", one.reduceToNormalForm(0), 1);
        Check.due("one point", Fans.polynomial(one), "1x0y0");
    }

    private static String values(GroebnerFan fan) {
        StringBuilder text = new StringBuilder();
        for (int k = 0; k < fan.pointCount(); k++) {
            text.append(fan.evaluate(k)).append(' ');
        }
        return text.toString();
    }

    private static int termsThatAreNotStandard(GroebnerFan fan, int cone) {
        int count = 0;
        for (int k = 0; k < 81; k++) {
            boolean isStandard = k % 9 < fan.coneHeight(cone, k / 9);
            count += fan.coefficient(k / 9, k % 9) != 0 && !isStandard ? 1 : 0;
        }
        return count;
    }

    private static void interpolate() {
        Check.about("its value at point k is element k of the array, reduced modulo p.");
        GroebnerFan fan = eight();
        fan.newArray(3, 8);
        int[] elements = {0, 30, 31, 32, 61, 62, 9998, 9999};
        for (int k = 0; k < 8; k++) {
            fan.setElement(3, k, elements[k]);
        }
        for (int cone = 0; cone < fan.coneCount(); cone++) {
            Check.due("terms of cone " + cone, fan.interpolate(cone, 3), fan.termCount());
            // 9998 = 31 * 322 + 16
            Check.due("values of cone " + cone, values(fan), "0 30 0 1 30 0 16 17 ");
            Check.due("other terms in cone " + cone, termsThatAreNotStandard(fan, cone), 0);
        }
        Check.about("a slot that holds an array with exactly one element for each point");
        array(fan, 0, 7, 1);
        Check.due("one too few", fan.interpolate(0, 0), MISMATCH);
        array(fan, 0, 9, 1);
        Check.due("one too many", fan.interpolate(0, 0), MISMATCH);
        array(fan, 0, 0, 1);
        Check.due("none", fan.interpolate(0, 0), MISMATCH);
        array(fan, 0, 20, 1);
        Check.due("twenty", fan.interpolate(0, 0), MISMATCH);
        Check.due("refusals change nothing", fan.evaluate(7), 17);
        array(fan, 0, 8, 31);
        Check.due("eight that are 0 modulo p", fan.interpolate(0, 0), 0);
        array(fan, 0, 8, 9999);
        Check.due("eight of the greatest", fan.interpolate(0, 0), 1);
        Check.due("eight of the greatest", Fans.polynomial(fan), "17x0y0");
        Check.about("normal forms and interpolated polynomials are 0.");
        GroebnerFan none = new GroebnerFan();
        fill(none, 1);
        array(none, 0, 1, 1);
        Check.due("no points, one element", none.interpolate(0, 0), MISMATCH);
        Check.due("stays", none.termCount(), 81);
        none.newArray(0, 0);
        Check.due("no points, no elements", none.interpolate(0, 0), 0);
        Check.due("no points, no elements", none.termCount(), 0);
    }

    private static void interpolateErrors() {
        Check.about("Returns the new number of nonzero coefficients; NO_SUCH_INDEX if there is no such"
                + " cone or slot; EMPTY_SLOT; WRONG_TYPE if the slot holds a polynomial; LENGTH_MISMATCH"
                + " if the array has another length.");
        GroebnerFan fan = eight();
        int last = fan.coneCount() - 1;
        array(fan, 0, 8, 3);
        array(fan, 1, 7, 3);
        fan.storePolynomial(3);
        Check.due("the last cone", fan.interpolate(last, 0), 1);
        for (int slot = 0; slot < 4; slot++) {
            Check.due("behind the last cone, slot " + slot, fan.interpolate(last + 1, slot), NO);
            Check.due("cone -1, slot " + slot, fan.interpolate(-1, slot), NO);
        }
        for (int bad : new int[] {-1, 4, LEAST, GREATEST}) {
            Check.due("slot " + bad, fan.interpolate(0, bad), NO);
        }
        Check.due("an empty slot", fan.interpolate(0, 2), EMPTY);
        Check.due("a polynomial", fan.interpolate(0, 3), WRONG);
        Check.due("another length", fan.interpolate(0, 1), MISMATCH);
        Check.due("refusals change nothing", Fans.polynomial(fan), "3x0y0");
    }

    private static void loadBasisPolynomial() {
        Check.about("Returns the new number of nonzero coefficients; NO_SUCH_INDEX if there is no such"
                + " cone or polynomial.");
        GroebnerFan none = new GroebnerFan();
        fill(none, 1);
        Check.due("behind the only polynomial", none.loadBasisPolynomial(0, 1), NO);
        Check.due("behind the only cone", none.loadBasisPolynomial(1, 0), NO);
        Check.due("stays", none.termCount(), 81);
        Check.due("1", none.loadBasisPolynomial(0, 0), 1);
        Check.due("1", Fans.polynomial(none), "1x0y0");
        // x^8 + .. = x (x - 1) .. (x - 6) (x + 1): the sum of the roots is 21 - 1 = 20
        GroebnerFan row = Fans.of(31, 0, 5, 1, 5, 2, 5, 3, 5, 4, 5, 5, 5, 6, 5, 30, 5);
        row.loadBasisPolynomial(0, 1);
        Check.due("at x^8", row.coefficient(8, 0), 1);
        Check.due("at x^7", row.coefficient(7, 0), 11);
        Check.due("at 1", row.coefficient(0, 0), 0);
        Check.due("y - 5", row.loadBasisPolynomial(0, 0), 2);
        Check.due("y - 5", Fans.polynomial(row), "26x0y0 1x0y1");
        GroebnerFan fan = eight();
        int last = fan.coneCount() - 1;
        int size = fan.basisSize(last);
        Check.due("the last of the last", fan.loadBasisPolynomial(last, size - 1), fan.termCount());
        Check.due("the corner x^8", fan.coefficient(8, 0), 1);
        Check.due("behind the last of the last", fan.loadBasisPolynomial(last, size), NO);
        Check.due("behind the last cone", fan.loadBasisPolynomial(last + 1, 0), NO);
        for (int bad : new int[] {-1, LEAST, GREATEST}) {
            Check.due("cone " + bad, fan.loadBasisPolynomial(bad, 0), NO);
            Check.due("polynomial " + bad, fan.loadBasisPolynomial(0, bad), NO);
        }
        Check.due("refusals change nothing", fan.coefficient(8, 0), 1);
    }

    public static void main(String[] args) {
        values();
        exponents();
        termCount();
        evaluate();
        isVanishing();
        reduceToNormalForm();
        interpolate();
        interpolateErrors();
        loadBasisPolynomial();
        Check.finish("PolynomialEdgesTest");
    }
}
