/** Promises 1 to 11: a new object, the prime, the points. */
public final class PointsTest {
    private PointsTest() {
    }

    private static void newObject() {
        GroebnerFan fan = new GroebnerFan();
        Check.due("1: prime of a new object", fan.prime(), 7);
        Check.due("1: points of a new object", fan.pointCount(), 0);
        Check.due("1: polynomial of a new object", fan.termCount(), 0);
        Check.due("1: polynomial of a new object", Fans.polynomial(fan), "");
        for (int slot = 0; slot < 4; slot++) {
            Check.due("1: slot of a new object", fan.clearSlot(slot), 0);
        }
        Check.due("1: input of a new object", fan.inputLength(), 0);
        Check.due("1: output of a new object", fan.outputByte(0), GroebnerFan.NO_SUCH_INDEX);
        Check.due("1: cones of a new object", fan.coneCount(), 1);
        Check.due("1: basis of a new object", Fans.format(fan, 0, 0), "1");
        GroebnerFan other = new GroebnerFan();
        fan.addPoint(1, 2);
        fan.setCoefficient(0, 0, 1);
        Check.due("1: objects share no points", other.pointCount(), 0);
        Check.due("1: objects share no polynomial", other.termCount(), 0);
    }

    private static void setPrime() {
        GroebnerFan fan = new GroebnerFan();
        int[] primes = {2, 3, 5, 7, 11, 13, 17, 19, 23, 29, 31};
        int previous = 7;
        for (int p : primes) {
            Check.due("2: setPrime(" + p + ")", fan.setPrime(p), previous);
            Check.due("3: prime()", fan.prime(), p);
            previous = p;
        }
        for (int p = -40; p <= 200; p++) {
            boolean isPrime = p > 1 && p < 32;
            for (int d = 2; d < p; d++) {
                isPrime &= p % d != 0;
            }
            if (!isPrime) {
                Check.due("2: setPrime(" + p + ")", fan.setPrime(p), GroebnerFan.BAD_VALUE);
            }
        }
        Check.due("2: greatest int", fan.setPrime(Integer.MAX_VALUE), GroebnerFan.BAD_VALUE);
        Check.due("2: smallest int", fan.setPrime(Integer.MIN_VALUE), GroebnerFan.BAD_VALUE);
        Check.due("2: a refused prime changes nothing", fan.prime(), 31);
    }

    private static void setPrimeClears() {
        GroebnerFan fan = Fans.of(11, 1, 2, 10, 3);
        fan.setCoefficient(3, 3, 10);
        fan.storePolynomial(0);
        fan.newArray(1, 2);
        fan.setElement(1, 1, 99);
        fan.appendInput('1');
        fan.format(0, 0);
        String output = Fans.output(fan);
        String before = Fans.state(fan);
        Check.due("2: a refused prime", fan.setPrime(9), GroebnerFan.BAD_VALUE);
        Check.due("2: a refused prime changes nothing", Fans.state(fan), before);
        Check.due("2: the prime that there is", fan.setPrime(11), 11);
        Check.due("2: removes the points", fan.pointCount(), 0);
        Check.due("2: removes the points from the fan", Fans.format(fan, 0, 0), "1");
        Check.due("2: clears the polynomial", fan.termCount(), 0);
        Check.due("2: keeps the input", fan.inputLength(), 1);
        Check.due("2: keeps arrays", fan.element(1, 1), 99);
        fan.addPoint(1, 2);
        fan.format(0, 0);
        output = Fans.output(fan);
        fan.setPrime(3);
        Check.due("2: keeps the output", Fans.output(fan), output);
        Check.due("2: reduces nothing in slots", fan.loadPolynomial(0), 1);
        Check.due("2: 10 modulo 3", fan.coefficient(3, 3), 1);
        fan.setPrime(13);
        fan.loadPolynomial(0);
        Check.due("2: slots keep coefficients unchanged", fan.coefficient(3, 3), 10);
    }

    private static void addPoint() {
        GroebnerFan fan = Fans.of(5);
        Check.due("4: first point", fan.addPoint(0, 4), 1);
        Check.due("4: second point", fan.addPoint(4, 0), 2);
        Check.due("4: x too great", fan.addPoint(5, 0), GroebnerFan.BAD_VALUE);
        Check.due("4: y too great", fan.addPoint(0, 5), GroebnerFan.BAD_VALUE);
        Check.due("4: x negative", fan.addPoint(-1, 0), GroebnerFan.BAD_VALUE);
        Check.due("4: y negative", fan.addPoint(0, -1), GroebnerFan.BAD_VALUE);
        Check.due("4: far off", fan.addPoint(Integer.MIN_VALUE, 0), GroebnerFan.BAD_VALUE);
        Check.due("4: duplicate", fan.addPoint(4, 0), GroebnerFan.DUPLICATE_POINT);
        Check.due("4: same x alone", fan.addPoint(4, 4), 3);
        Check.due("4: refused points are not in the list", Fans.points(fan), "0,4 4,0 4,4");
        for (int k = 0; k < 5; k++) {
            Check.due("4: more points", fan.addPoint(1, k), 4 + k);
        }
        Check.due("4: no room", fan.addPoint(2, 2), GroebnerFan.FULL);
        Check.due("4: duplicate ahead of full", fan.addPoint(1, 3), GroebnerFan.DUPLICATE_POINT);
        Check.due("4: range ahead of full", fan.addPoint(1, 5), GroebnerFan.BAD_VALUE);
        Check.due("6: points", fan.pointCount(), 8);
        Check.due("4: the fan follows", Fans.of(5, 1, 1).coneCount(), 1);
        GroebnerFan growing = Fans.of(7, 0, 0);
        Check.due("4: fan of one point", growing.basisCorner(0, 0), 1);
        growing.addPoint(0, 1);
        Check.due("4: fan after another", growing.basisCorner(0, 0), 2);
    }

    private static void removePoint() {
        GroebnerFan fan = Fans.of(7, 1, 2, 3, 4, 5, 6, 0, 0);
        fan.setCoefficient(1, 1, 3);
        Check.due("5: below", fan.removePoint(-1), GroebnerFan.NO_SUCH_INDEX);
        Check.due("5: above", fan.removePoint(4), GroebnerFan.NO_SUCH_INDEX);
        Check.due("5: nothing removed", fan.pointCount(), 4);
        Check.due("5: in the middle", fan.removePoint(1), 3);
        Check.due("5: later points move up", Fans.points(fan), "1,2 5,6 0,0");
        Check.due("5: the polynomial stays", fan.coefficient(1, 1), 3);
        Check.due("5: three points in no line", Fans.heights(fan, 0), "300000000");
        Check.due("5: the last", fan.removePoint(2), 2);
        Check.due("5: the first", fan.removePoint(0), 1);
        Check.due("5: what stays", Fans.points(fan), "5,6");
        Check.due("5: fan of one point", Fans.format(fan, 0, 0), "1y1+1");
        fan.addPoint(5, 5);
        Check.due("5: fan of two points", fan.basisCorner(0, 0), 2);
        fan.removePoint(1);
        Check.due("5: the fan follows", fan.basisCorner(0, 0), 1);
        Check.due("5: the only one", fan.removePoint(0), 0);
        Check.due("5: none left", fan.removePoint(0), GroebnerFan.NO_SUCH_INDEX);
        Check.due("5: fan without points", Fans.format(fan, 0, 0), "1");
        Check.due("5: can be added again", fan.addPoint(5, 6), 1);
    }

    private static void pointQuestions() {
        GroebnerFan fan = new GroebnerFan();
        Check.due("6: no points", fan.pointCount(), 0);
        Check.due("7: no points", fan.pointX(0), GroebnerFan.NO_SUCH_INDEX);
        Check.due("8: no points", fan.pointY(0), GroebnerFan.NO_SUCH_INDEX);
        fan = Fans.of(31, 30, 0, 7, 29);
        Check.due("7: x of point 0", fan.pointX(0), 30);
        Check.due("8: y of point 0", fan.pointY(0), 0);
        Check.due("7: x of point 1", fan.pointX(1), 7);
        Check.due("8: y of point 1", fan.pointY(1), 29);
        for (int index : new int[] {-1, 2, 8, Integer.MAX_VALUE, Integer.MIN_VALUE}) {
            Check.due("7: pointX(" + index + ")", fan.pointX(index), GroebnerFan.NO_SUCH_INDEX);
            Check.due("8: pointY(" + index + ")", fan.pointY(index), GroebnerFan.NO_SUCH_INDEX);
        }
        fan.removePoint(1);
        Check.due("7: a removed point", fan.pointX(1), GroebnerFan.NO_SUCH_INDEX);
        Check.due("8: a removed point", fan.pointY(1), GroebnerFan.NO_SUCH_INDEX);
    }

    private static void swapCoordinates() {
        Check.due("9: without points", new GroebnerFan().swapCoordinates(), 1);
        GroebnerFan fan = Fans.of(7, 1, 2, 3, 3, 2, 1);
        Check.due("9: the same points", fan.swapCoordinates(), 1);
        Check.due("9: in their places", Fans.points(fan), "2,1 3,3 1,2");
        fan = Fans.of(7, 1, 2, 3, 3);
        Check.due("9: other points", fan.swapCoordinates(), 0);
        Check.due("9: other points", Fans.points(fan), "2,1 3,3");
        fan = Fans.of(7, 0, 0, 0, 1, 0, 2);
        Check.due("9: before", fan.basisCorner(0, 0), 3);
        Check.due("9: a column", fan.swapCoordinates(), 0);
        Check.due("9: the fan follows", fan.basisCorner(0, 0), 1);
        Check.due("9: shared x and y, yet others", Fans.of(7, 1, 2, 2, 3, 3, 1).swapCoordinates(), 0);
    }

    private static void translate() {
        GroebnerFan fan = Fans.of(7, 0, 6, 5, 3);
        fan.setCoefficient(1, 0, 1);
        Check.due("10: translate(3, 2)", fan.translate(3, 2), 2);
        Check.due("10: modulo p", Fans.points(fan), "3,1 1,5");
        Check.due("10: the polynomial stays", Fans.polynomial(fan), "1x1y0");
        Check.due("10: by nothing", fan.translate(0, 0), 2);
        Check.due("10: by nothing", Fans.points(fan), "3,1 1,5");
        Check.due("10: by the most", fan.translate(6, 6), 2);
        Check.due("10: by the most", Fans.points(fan), "2,0 0,4");
        for (int bad : new int[] {-1, 7, Integer.MIN_VALUE, Integer.MAX_VALUE}) {
            Check.due("10: dx " + bad, fan.translate(bad, 1), GroebnerFan.BAD_VALUE);
            Check.due("10: dy " + bad, fan.translate(1, bad), GroebnerFan.BAD_VALUE);
        }
        Check.due("10: a refusal changes nothing", Fans.points(fan), "2,0 0,4");
        Check.due("10: without points", new GroebnerFan().translate(1, 1), 0);
        Check.due("10: refused without points", new GroebnerFan().translate(7, 1),
                GroebnerFan.BAD_VALUE);
        fan = Fans.of(7, 2, 3);
        Check.due("10: fan before", Fans.format(fan, 0, 0), "1y1+4");
        fan.translate(1, 1);
        Check.due("10: the fan follows", Fans.format(fan, 0, 0), "1y1+3");
    }

    private static void scale() {
        GroebnerFan fan = Fans.of(7, 0, 6, 5, 3);
        Check.due("11: scale(3, 2)", fan.scale(3, 2), 2);
        Check.due("11: modulo p", Fans.points(fan), "0,5 1,6");
        Check.due("11: by 1", fan.scale(1, 1), 2);
        Check.due("11: by 1", Fans.points(fan), "0,5 1,6");
        Check.due("11: by the most", fan.scale(6, 6), 2);
        Check.due("11: by the most", Fans.points(fan), "0,2 6,1");
        for (int bad : new int[] {-1, 0, 7, Integer.MIN_VALUE, Integer.MAX_VALUE}) {
            Check.due("11: fx " + bad, fan.scale(bad, 1), GroebnerFan.BAD_VALUE);
            Check.due("11: fy " + bad, fan.scale(1, bad), GroebnerFan.BAD_VALUE);
        }
        Check.due("11: a refusal changes nothing", Fans.points(fan), "0,2 6,1");
        Check.due("11: without points", new GroebnerFan().scale(1, 6), 0);
        Check.due("11: refused without points", new GroebnerFan().scale(1, 0),
                GroebnerFan.BAD_VALUE);
        Check.due("11: p = 2 has 1 alone", Fans.of(2, 1, 1).scale(1, 1), 1);
        fan = Fans.of(7, 2, 3);
        Check.due("11: fan before", Fans.format(fan, 0, 0), "1y1+4");
        fan.scale(1, 2);
        Check.due("11: the fan follows", Fans.format(fan, 0, 0), "1y1+1");
    }

    public static void main(String[] args) {
        newObject();
        setPrime();
        setPrimeClears();
        addPoint();
        removePoint();
        pointQuestions();
        swapCoordinates();
        translate();
        scale();
        Check.finish("PointsTest");
    }
}
