/** Promises 42 to 50: the sentences of the document that name a boundary case, each by itself. */
public final class SlotEdgesTest {
    private static final int NO = GroebnerFan.NO_SUCH_INDEX;
    private static final int BAD = GroebnerFan.BAD_VALUE;
    private static final int NONE = GroebnerFan.NONE;
    private static final int EMPTY = GroebnerFan.EMPTY_SLOT;
    private static final int WRONG = GroebnerFan.WRONG_TYPE;
    private static final int NEGATIVE = GroebnerFan.NEGATIVE_SIZE;
    private static final int LEAST = Integer.MIN_VALUE;
    private static final int GREATEST = Integer.MAX_VALUE;
    private static final int[] NO_SLOTS = {-1, 4, LEAST, GREATEST};

    private SlotEdgesTest() {
    }

    private static void array(GroebnerFan fan, int slot, int... elements) {
        fan.newArray(slot, elements.length);
        for (int k = 0; k < elements.length; k++) {
            fan.setElement(slot, k, elements[k]);
        }
    }

    private static void newArray() {
        Check.about("There are 4 slots, numbered 0 to 3.");
        GroebnerFan fan = new GroebnerFan();
        for (int slot = 0; slot < 4; slot++) {
            Check.due("slot " + slot, fan.newArray(slot, slot + 1), 1);
        }
        for (int slot = 0; slot < 4; slot++) {
            Check.due("the last element of slot " + slot, fan.element(slot, slot), 0);
            Check.due("behind it", fan.element(slot, slot + 1), NO);
        }
        Check.about("Returns 1; NO_SUCH_INDEX if there is no such slot; BAD_VALUE if length is greater"
                + " than 20; NEGATIVE_SIZE.");
        Check.due("length 0", fan.newArray(0, 0), 1);
        Check.due("length 20", fan.newArray(3, 20), 1);
        Check.due("length 21", fan.newArray(3, 21), BAD);
        Check.due("the greatest length", fan.newArray(3, GREATEST), BAD);
        Check.due("length -1", fan.newArray(3, -1), NEGATIVE);
        Check.due("the least length", fan.newArray(3, LEAST), NEGATIVE);
        Check.due("still of 20", fan.element(3, 19), 0);
        for (int bad : NO_SLOTS) {
            Check.due("slot " + bad, fan.newArray(bad, 0), NO);
            Check.due("slot " + bad + " ahead of length 21", fan.newArray(bad, 21), NO);
            Check.due("slot " + bad + " ahead of length -1", fan.newArray(bad, -1), NO);
        }
        Check.about("Puts a new array of zeros into a slot. The previous content of the slot is lost.");
        for (int k = 0; k < 20; k++) {
            fan.setElement(3, k, 9999);
        }
        fan.newArray(3, 1);
        Check.due("a shorter one", fan.element(3, 0), 0);
        Check.due("behind it", fan.element(3, 1), NO);
        fan.newArray(3, 20);
        Check.due("a longer one", fan.element(3, 19), 0);
        for (int k = 0; k < 81; k++) {
            fan.setCoefficient(k / 9, k % 9, 6);
        }
        fan.storePolynomial(3);
        fan.newArray(3, 20);
        for (int k = 0; k < 20; k++) {
            Check.due("after a polynomial", fan.element(3, k), 0);
        }
        Check.due("no polynomial any more", fan.loadPolynomial(3), WRONG);
    }

    private static void elements() {
        Check.about("the new value, 0 to 9999");
        GroebnerFan fan = new GroebnerFan();
        fan.newArray(1, 20);
        fan.newArray(2, 0);
        fan.storePolynomial(3);
        Check.due("the greatest", fan.setElement(1, 19, 9999), 0);
        Check.due("the least", fan.setElement(1, 19, 0), 9999);
        Check.due("the greatest again", fan.setElement(1, 19, 9999), 0);
        for (int bad : new int[] {-1, 10000, LEAST, GREATEST}) {
            Check.due("value " + bad, fan.setElement(1, 19, bad), BAD);
        }
        Check.due("refusals change nothing", fan.element(1, 19), 9999);
        Check.about("Returns the previous value; NO_SUCH_INDEX if there is no such slot; BAD_VALUE if"
                + " value is out of range; EMPTY_SLOT; WRONG_TYPE if the slot holds a polynomial;"
                + " NO_SUCH_INDEX if there is no such element.");
        Check.due("no slot ahead of the value", fan.setElement(4, 0, -1), NO);
        Check.due("the value ahead of an empty slot", fan.setElement(0, 0, 10000), BAD);
        Check.due("the value ahead of the type", fan.setElement(3, 0, 10000), BAD);
        Check.due("the value ahead of the element", fan.setElement(1, 20, 10000), BAD);
        Check.due("an empty slot ahead of the element", fan.setElement(0, -1, 0), EMPTY);
        Check.due("the type ahead of the element", fan.setElement(3, -1, 0), WRONG);
        Check.due("element 0 of 20", fan.setElement(1, 0, 1), 0);
        Check.due("element 0 of none", fan.setElement(2, 0, 1), NO);
        Check.about("Returns the value; NO_SUCH_INDEX if there is no such slot; EMPTY_SLOT; WRONG_TYPE if"
                + " the slot holds a polynomial; NO_SUCH_INDEX if there is no such element.");
        Check.due("element 0 of 20", fan.element(1, 0), 1);
        Check.due("element 0 of none", fan.element(2, 0), NO);
        Check.due("an empty slot ahead of the element", fan.element(0, -1), EMPTY);
        Check.due("the type ahead of the element", fan.element(3, 81), WRONG);
        for (int bad : new int[] {-1, 20, 21, LEAST, GREATEST}) {
            Check.due("element " + bad, fan.element(1, bad), NO);
            Check.due("setting element " + bad, fan.setElement(1, bad, 1), NO);
        }
        for (int bad : NO_SLOTS) {
            Check.due("slot " + bad, fan.element(bad, 0), NO);
            Check.due("setting in slot " + bad, fan.setElement(bad, 0, 1), NO);
        }
        Check.due("the last element", fan.element(1, 19), 9999);
    }

    private static void storePolynomial() {
        Check.about("Returns the number of nonzero coefficients; NO_SUCH_INDEX if there is no such slot.");
        GroebnerFan fan = Fans.of(31);
        Check.due("0 into slot 0", fan.storePolynomial(0), 0);
        for (int k = 0; k < 81; k++) {
            fan.setCoefficient(k / 9, k % 9, 30 - k % 30);
        }
        Check.due("81 terms into slot 3", fan.storePolynomial(3), 81);
        for (int bad : NO_SLOTS) {
            Check.due("slot " + bad, fan.storePolynomial(bad), NO);
        }
        Check.about("Puts a copy of the current polynomial into a slot. The previous content of the slot"
                + " is lost.");
        fan.newArray(1, 20);
        Check.due("in place of an array", fan.storePolynomial(1), 81);
        Check.due("the array", fan.element(1, 0), WRONG);
        fan.setCoefficient(0, 0, 1);
        fan.loadPolynomial(1);
        Check.due("a copy", fan.coefficient(0, 0), 30);
        Check.about("Every coefficient is reduced modulo the present prime.");
        fan.setPrime(29);
        // 29 becomes 0; it is that of k = 1, 31 and 61.
        Check.due("81 terms of GF(31) over GF(29)", fan.loadPolynomial(3), 78);
        Check.due("30 over GF(29)", fan.coefficient(0, 0), 1);
        Check.due("29 over GF(29)", fan.coefficient(0, 1), 0);
        Check.due("28 over GF(29)", fan.coefficient(0, 2), 28);
        fan.setPrime(2);
        // The odd ones of 1 to 30 are 15 of each 30: 15 + 15 + 10 of the last 21, which end with 10.
        Check.due("over GF(2)", fan.loadPolynomial(3), 40);
        Check.about("Returns the new number of nonzero coefficients; NO_SUCH_INDEX if there is no such"
                + " slot; EMPTY_SLOT; WRONG_TYPE if the slot holds an array.");
        fan.newArray(1, 0);
        Check.due("an array of none", fan.loadPolynomial(1), WRONG);
        Check.due("an empty slot", fan.loadPolynomial(2), EMPTY);
        for (int bad : NO_SLOTS) {
            Check.due("slot " + bad, fan.loadPolynomial(bad), NO);
        }
        Check.due("refusals change nothing", fan.termCount(), 40);
        Check.due("0 from slot 0", fan.loadPolynomial(0), 0);
        Check.due("0 from slot 0", fan.termCount(), 0);
        fan.setPrime(31);
        Check.due("slot 3 as it was", fan.loadPolynomial(3), 81);
        Check.due("slot 3 as it was", fan.coefficient(0, 0), 30);
    }

    private static void clearSlot() {
        Check.about("Returns 0 if the slot was empty, 1 if it held an array, 2 if it held a polynomial;"
                + " NO_SUCH_INDEX if there is no such slot.");
        GroebnerFan fan = new GroebnerFan();
        for (int slot = 0; slot < 4; slot++) {
            Check.due("empty slot " + slot, fan.clearSlot(slot), 0);
        }
        fan.newArray(0, 0);
        fan.newArray(1, 20);
        fan.storePolynomial(2);
        fan.setCoefficient(8, 8, 1);
        fan.storePolynomial(3);
        for (int bad : NO_SLOTS) {
            Check.due("slot " + bad, fan.clearSlot(bad), NO);
        }
        Check.due("an array of none", fan.clearSlot(0), 1);
        Check.due("an array of 20", fan.clearSlot(1), 1);
        Check.due("the polynomial 0", fan.clearSlot(2), 2);
        Check.due("a polynomial", fan.clearSlot(3), 2);
        for (int slot = 0; slot < 4; slot++) {
            Check.due("slot " + slot + " again", fan.clearSlot(slot), 0);
            Check.due("an element of it", fan.element(slot, 0), EMPTY);
            Check.due("the polynomial of it", fan.loadPolynomial(slot), EMPTY);
        }
    }

    private static void firstDifference() {
        // Columns of 8, and of 1 in each of 8
        GroebnerFan column = Fans.of(31, 5, 0, 5, 1, 5, 2, 5, 3, 5, 4, 5, 5, 5, 6, 5, 30);
        GroebnerFan row = Fans.of(31, 0, 5, 1, 5, 2, 5, 3, 5, 4, 5, 5, 5, 6, 5, 30, 5);
        Check.about("Element i is compared with the height of column i; an element with an index greater"
                + " than 8 always differs.");
        array(row, 0, 1, 1, 1, 1, 1, 1, 1, 1, 0);
        Check.due("nine alike", row.firstDifference(0, 0), NONE);
        array(row, 0, 1, 1, 1, 1, 1, 1, 1, 1, 1);
        Check.due("element 8", row.firstDifference(0, 0), 8);
        array(row, 0, 1, 1, 1, 1, 1, 1, 1, 1, 0, 0);
        Check.due("element 9 is 0", row.firstDifference(0, 0), 9);
        array(row, 0, 0, 1, 1, 1, 1, 1, 1, 1, 0, 0, 0, 0, 0, 0, 0, 0, 0, 0, 0, 0);
        Check.due("the first of many", row.firstDifference(0, 0), 0);
        array(row, 0, 1, 1, 1, 1, 1, 1, 1, 32);
        Check.due("1 modulo p is not 1", row.firstDifference(0, 0), 7);
        array(column, 0, 8);
        Check.due("height 8", column.firstDifference(0, 0), NONE);
        array(column, 0, 9999);
        Check.due("the greatest value", column.firstDifference(0, 0), 0);
        GroebnerFan none = new GroebnerFan();
        none.newArray(0, 9);
        Check.due("nine zeros without points", none.firstDifference(0, 0), NONE);
        none.newArray(0, 10);
        Check.due("ten zeros without points", none.firstDifference(0, 0), 9);
        none.newArray(0, 20);
        Check.due("twenty zeros without points", none.firstDifference(0, 0), 9);
        Check.about("Comparing looks at the elements of the array alone.");
        none.newArray(0, 0);
        Check.due("no elements without points", none.firstDifference(0, 0), NONE);
        row.newArray(0, 0);
        Check.due("no elements", row.firstDifference(0, 0), NONE);
        array(row, 0, 1, 1);
        Check.due("two of eight", row.firstDifference(0, 0), NONE);
        Check.about("Returns the index of the first element that differs; NO_SUCH_INDEX if there is no"
                + " such slot or cone; EMPTY_SLOT; WRONG_TYPE if the slot holds a polynomial; NONE if no"
                + " element differs.");
        row.storePolynomial(3);
        for (int slot = 0; slot < 4; slot++) {
            for (int bad : new int[] {-1, 1, LEAST, GREATEST}) {
                Check.due("slot " + slot + ", cone " + bad, row.firstDifference(slot, bad), NO);
            }
        }
        for (int bad : NO_SLOTS) {
            Check.due("slot " + bad, row.firstDifference(bad, 0), NO);
        }
        Check.due("an empty slot", row.firstDifference(1, 0), EMPTY);
        Check.due("a polynomial", row.firstDifference(3, 0), WRONG);
    }

    private static void saveSnapshot() {
        Check.about("Returns the number of points.");
        Check.due("a new object", new GroebnerFan().saveSnapshot(), 0);
        GroebnerFan fan = Fans.of(31, 0, 0, 1, 2, 2, 1, 3, 3, 30, 4, 5, 30, 6, 11, 7, 7);
        Check.due("eight points", fan.saveSnapshot(), 8);
        Check.about("An earlier snapshot is replaced.");
        fan.setPrime(2);
        Check.due("no points", fan.saveSnapshot(), 0);
        fan.setPrime(31);
        fan.addPoint(30, 30);
        Check.due("no points", fan.restoreSnapshot(), 0);
        Check.due("no points", fan.pointCount(), 0);
        Check.due("the prime", fan.prime(), 2);
    }

    private static void restoreSnapshot() {
        Check.about("Returns the number of points; NONE if no snapshot was saved.");
        GroebnerFan fan = new GroebnerFan();
        Check.due("a new object", fan.restoreSnapshot(), NONE);
        fan.addPoint(6, 6);
        fan.setCoefficient(8, 8, 6);
        Check.due("none was saved", fan.restoreSnapshot(), NONE);
        Check.due("the point", Fans.points(fan), "6,6");
        Check.due("the polynomial", Fans.polynomial(fan), "6x8y8");
        Check.about("Restores the prime, the points and the current polynomial from the snapshot. The"
                + " snapshot is kept.");
        GroebnerFan full = Fans.of(31, 0, 0, 1, 2, 2, 1, 3, 3, 30, 4, 5, 30, 6, 11, 7, 7);
        for (int k = 0; k < 81; k++) {
            full.setCoefficient(k / 9, k % 9, 30);
        }
        int cones = full.coneCount();
        full.saveSnapshot();
        for (int round = 0; round < 3; round++) {
            full.setPrime(2);
            full.addPoint(1, 1);
            full.coneCount();
            Check.due("eight points", full.restoreSnapshot(), 8);
            Check.due("the prime", full.prime(), 31);
            Check.due("the last point", full.pointX(7), 7);
            Check.due("all terms", full.termCount(), 81);
            Check.due("the cones", full.coneCount(), cones);
            Check.due("a ninth point", full.addPoint(30, 30), GroebnerFan.FULL);
        }
        Check.about("Slots, input and output are not part of a snapshot.");
        full.newArray(0, 20);
        Fans.appendAll(full, "1,1");
        full.format(0, 0);
        String output = Fans.output(full);
        full.restoreSnapshot();
        Check.due("the array", full.clearSlot(0), 1);
        Check.due("the input", full.inputLength(), 3);
        Check.due("the output", Fans.output(full), output);
    }

    public static void main(String[] args) {
        newArray();
        elements();
        storePolynomial();
        clearSlot();
        firstDifference();
        saveSnapshot();
        restoreSnapshot();
        Check.finish("SlotEdgesTest");
    }
}
