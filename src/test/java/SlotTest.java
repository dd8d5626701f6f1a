/** Promises 42 to 48: slots. */
public final class SlotTest {
    private static final int NO = GroebnerFan.NO_SUCH_INDEX;
    private static final int BAD = GroebnerFan.BAD_VALUE;
    private static final int EMPTY = GroebnerFan.EMPTY_SLOT;
    private static final int WRONG = GroebnerFan.WRONG_TYPE;
    private static final int NONE = GroebnerFan.NONE;
    private static final int[] NO_SLOTS = {-1, 4, Integer.MAX_VALUE, Integer.MIN_VALUE};

    private SlotTest() {
    }

    private static void array(GroebnerFan fan, int slot, int... elements) {
        fan.newArray(slot, elements.length);
        for (int k = 0; k < elements.length; k++) {
            fan.setElement(slot, k, elements[k]);
        }
    }

    private static void newArray() {
        GroebnerFan fan = new GroebnerFan();
        Check.due("42: length 0", fan.newArray(0, 0), 1);
        Check.due("42: length 20", fan.newArray(3, 20), 1);
        Check.due("42: no element", fan.element(0, 0), NO);
        for (int k = 0; k < 20; k++) {
            Check.due("42: zeros", fan.element(3, k), 0);
        }
        Check.due("42: no element 20", fan.element(3, 20), NO);
        fan.setElement(3, 5, 17);
        for (int bad : NO_SLOTS) {
            Check.due("42: slot " + bad, fan.newArray(bad, 1), NO);
            Check.due("42: slot ahead of the length", fan.newArray(bad, 21), NO);
            Check.due("42: slot ahead of the length", fan.newArray(bad, -1), NO);
        }
        Check.due("42: length 21", fan.newArray(3, 21), BAD);
        Check.due("42: greatest length", fan.newArray(3, Integer.MAX_VALUE), BAD);
        Check.due("42: length -1", fan.newArray(3, -1), GroebnerFan.NEGATIVE_SIZE);
        Check.due("42: least length", fan.newArray(3, Integer.MIN_VALUE), GroebnerFan.NEGATIVE_SIZE);
        Check.due("42: refusals change nothing", fan.element(3, 5), 17);
        Check.due("42: an array anew", fan.newArray(3, 8), 1);
        Check.due("42: the previous content is lost", fan.element(3, 5), 0);
        Check.due("42: a shorter one", fan.element(3, 8), NO);
        fan.setElement(3, 7, 9);
        fan.newArray(3, 2);
        fan.newArray(3, 8);
        Check.due("42: nothing of an older one", fan.element(3, 7), 0);
        fan.setCoefficient(0, 3, 5);
        fan.storePolynomial(1);
        Check.due("42: in place of a polynomial", fan.newArray(1, 9), 1);
        Check.due("42: nothing of the polynomial", fan.element(1, 3), 0);
        Check.due("42: slot 2 is still empty", fan.element(2, 0), EMPTY);
    }

    private static void setElement() {
        GroebnerFan fan = new GroebnerFan();
        fan.newArray(0, 3);
        fan.storePolynomial(1);
        Check.due("43: first", fan.setElement(0, 0, 9999), 0);
        Check.due("43: previous", fan.setElement(0, 0, 0), 9999);
        Check.due("43: last", fan.setElement(0, 2, 31), 0);
        Check.due("44: last", fan.element(0, 2), 31);
        Check.due("44: not reduced modulo p", fan.element(0, 2), 31);
        Check.due("44: the others", fan.element(0, 1), 0);
        for (int bad : new int[] {-1, 10000, Integer.MAX_VALUE, Integer.MIN_VALUE}) {
            Check.due("43: value " + bad, fan.setElement(0, 2, bad), BAD);
            Check.due("43: value ahead of an empty slot", fan.setElement(2, 0, bad), BAD);
            Check.due("43: value ahead of the type", fan.setElement(1, 0, bad), BAD);
            Check.due("43: value ahead of the index", fan.setElement(0, 9, bad), BAD);
            Check.due("43: slot ahead of the value", fan.setElement(4, 0, bad), NO);
        }
        for (int bad : NO_SLOTS) {
            Check.due("43: slot " + bad, fan.setElement(bad, 0, 1), NO);
            Check.due("44: slot " + bad, fan.element(bad, 0), NO);
        }
        for (int bad : new int[] {-1, 3, 20, 81, Integer.MAX_VALUE, Integer.MIN_VALUE}) {
            Check.due("43: index " + bad, fan.setElement(0, bad, 1), NO);
            Check.due("44: index " + bad, fan.element(0, bad), NO);
            Check.due("43: empty ahead of the index", fan.setElement(2, bad, 1), EMPTY);
            Check.due("44: empty ahead of the index", fan.element(2, bad), EMPTY);
            Check.due("43: type ahead of the index", fan.setElement(1, bad, 1), WRONG);
            Check.due("44: type ahead of the index", fan.element(1, bad), WRONG);
        }
        Check.due("43: empty", fan.setElement(2, 0, 1), EMPTY);
        Check.due("44: empty", fan.element(2, 0), EMPTY);
        Check.due("43: a polynomial", fan.setElement(1, 0, 1), WRONG);
        Check.due("44: a polynomial", fan.element(1, 0), WRONG);
        Check.due("43: refusals change nothing", fan.element(0, 2), 31);
    }

    private static void polynomials() {
        GroebnerFan fan = Fans.of(31);
        fan.setCoefficient(8, 0, 30);
        fan.setCoefficient(0, 8, 14);
        Check.due("45: storePolynomial(0)", fan.storePolynomial(0), 2);
        fan.setCoefficient(8, 0, 1);
        fan.setCoefficient(4, 4, 1);
        Check.due("45: another slot", fan.storePolynomial(3), 3);
        Check.due("46: loadPolynomial(0)", fan.loadPolynomial(0), 2);
        Check.due("46: it was a copy", Fans.polynomial(fan), "14x0y8 30x8y0");
        fan.setCoefficient(8, 0, 2);
        fan.loadPolynomial(0);
        Check.due("46: so is what was loaded", Fans.polynomial(fan), "14x0y8 30x8y0");
        fan.setPrime(7);
        Check.due("46: modulo the present prime", fan.loadPolynomial(0), 1);
        Check.due("46: modulo the present prime", Fans.polynomial(fan), "2x8y0");
        fan.setPrime(2);
        Check.due("46: none is left", fan.loadPolynomial(0), 0);
        Check.due("45: the zero polynomial", fan.storePolynomial(1), 0);
        Check.due("46: the zero polynomial", fan.loadPolynomial(1), 0);
        fan.setPrime(31);
        Check.due("46: the slot keeps its coefficients", fan.loadPolynomial(0), 2);
        Check.due("46: the slot keeps its coefficients", Fans.polynomial(fan), "14x0y8 30x8y0");
        fan.newArray(2, 3);
        for (int bad : NO_SLOTS) {
            Check.due("45: slot " + bad, fan.storePolynomial(bad), NO);
            Check.due("46: slot " + bad, fan.loadPolynomial(bad), NO);
        }
        Check.due("46: an array", fan.loadPolynomial(2), WRONG);
        fan.clearSlot(2);
        Check.due("46: empty", fan.loadPolynomial(2), EMPTY);
        Check.due("46: refusals change nothing", Fans.polynomial(fan), "14x0y8 30x8y0");
        fan.newArray(2, 3);
        Check.due("45: in place of an array", fan.storePolynomial(2), 2);
        for (int k = 0; k < 81; k++) {
            fan.setCoefficient(k / 9, k % 9, k % 30 + 1);
        }
        Check.due("45: all terms", fan.storePolynomial(3), 81);
        String all = Fans.polynomial(fan);
        fan.loadPolynomial(0);
        Check.due("46: all terms", fan.loadPolynomial(3), 81);
        Check.due("46: all terms", Fans.polynomial(fan), all);
        Check.due("45: the array is lost", fan.element(2, 0), WRONG);
    }

    private static void clearSlot() {
        GroebnerFan fan = new GroebnerFan();
        fan.newArray(1, 0);
        fan.storePolynomial(2);
        Check.due("47: empty", fan.clearSlot(0), 0);
        Check.due("47: an array", fan.clearSlot(1), 1);
        Check.due("47: a polynomial", fan.clearSlot(2), 2);
        Check.due("47: an array cleared", fan.clearSlot(1), 0);
        Check.due("47: a polynomial cleared", fan.clearSlot(2), 0);
        Check.due("47: empty now", fan.element(1, 0), EMPTY);
        Check.due("47: empty now", fan.loadPolynomial(2), EMPTY);
        for (int bad : NO_SLOTS) {
            Check.due("47: slot " + bad, fan.clearSlot(bad), NO);
        }
        fan.newArray(3, 4);
        fan.setElement(3, 3, 8);
        fan.clearSlot(0);
        Check.due("47: other slots stay", fan.element(3, 3), 8);
    }

    private static void firstDifference() {
        GroebnerFan fan = Fans.of(7, 0, 0, 1, 1, 4, 2);
        array(fan, 0, 2, 1, 0, 0, 0, 0, 0, 0, 0);
        Check.due("48: the heights", fan.firstDifference(0, 1), NONE);
        Check.due("48: those of cone 0", fan.firstDifference(0, 0), 0);
        Check.due("48: those of cone 2", fan.firstDifference(0, 2), 0);
        array(fan, 0, 3, 1);
        Check.due("48: element 1", fan.firstDifference(0, 0), 1);
        array(fan, 0, 1, 1);
        Check.due("48: the elements alone", fan.firstDifference(0, 2), NONE);
        array(fan, 0, 3, 0, 0, 0, 0, 0, 0, 0, 0, 0);
        Check.due("48: element 9 always differs", fan.firstDifference(0, 0), 9);
        array(fan, 0, 3, 0, 0, 0, 0, 0, 0, 0, 1, 0);
        Check.due("48: the first of two", fan.firstDifference(0, 0), 8);
        array(fan, 0, 10, 0);
        Check.due("48: not modulo p", fan.firstDifference(0, 0), 0);
        fan.newArray(0, 0);
        Check.due("48: no elements", fan.firstDifference(0, 0), NONE);
        fan.storePolynomial(2);
        for (int bad : NO_SLOTS) {
            Check.due("48: slot " + bad, fan.firstDifference(bad, 0), NO);
            Check.due("48: cone " + bad, fan.firstDifference(0, bad), NO);
            Check.due("48: cone ahead of an empty slot", fan.firstDifference(1, bad), NO);
            Check.due("48: cone ahead of the type", fan.firstDifference(2, bad), NO);
        }
        Check.due("48: cone 3", fan.firstDifference(0, 3), NO);
        Check.due("48: empty", fan.firstDifference(1, 0), EMPTY);
        Check.due("48: a polynomial", fan.firstDifference(2, 0), WRONG);
        GroebnerFan none = new GroebnerFan();
        none.newArray(0, 20);
        Check.due("48: without points", none.firstDifference(0, 0), 9);
        none.newArray(0, 9);
        Check.due("48: without points", none.firstDifference(0, 0), NONE);
    }

    public static void main(String[] args) {
        newArray();
        setElement();
        polynomials();
        clearSlot();
        firstDifference();
        Check.finish("SlotTest");
    }
}
