/** Promises 1 to 11: the sentences of the document that name a boundary case, each by itself. */
public final class PointEdgesTest {
    private static final int NO = GroebnerFan.NO_SUCH_INDEX;
    private static final int BAD = GroebnerFan.BAD_VALUE;
    private static final int DUPLICATE = GroebnerFan.DUPLICATE_POINT;
    private static final int FULL = GroebnerFan.FULL;
    private static final int LEAST = Integer.MIN_VALUE;
    private static final int GREATEST = Integer.MAX_VALUE;
    private static final int[] PRIMES = {2, 3, 5, 7, 11, 13, 17, 19, 23, 29, 31};

    private PointEdgesTest() {
    }

    /** Eight points over GF(31), none of them on the diagonal. */
    private static GroebnerFan eight() {
        return Fans.of(31, 0, 30, 30, 0, 1, 2, 2, 1, 3, 4, 4, 3, 5, 6, 6, 5);
    }

    private static void newObject() {
        GroebnerFan fan = new GroebnerFan();
        Check.about("Creates an object with p = 7, no points, the zero polynomial as current"
                + " polynomial, and empty slots.");
        Check.due("prime()", fan.prime(), 7);
        Check.due("pointCount()", fan.pointCount(), 0);
        Check.due("pointX(0)", fan.pointX(0), NO);
        Check.due("pointY(0)", fan.pointY(0), NO);
        Check.about("It is the zero polynomial at first.");
        Check.due("termCount()", fan.termCount(), 0);
        Check.due("coefficient(0, 0)", fan.coefficient(0, 0), 0);
        Check.due("coefficient(8, 8)", fan.coefficient(8, 8), 0);
        Check.about("All slots are empty at first.");
        for (int slot = 0; slot < 4; slot++) {
            Check.due("slot " + slot, fan.element(slot, 0), GroebnerFan.EMPTY_SLOT);
        }
        Check.about("NONE if no snapshot was saved.");
        Check.due("restoreSnapshot()", fan.restoreSnapshot(), GroebnerFan.NONE);
        Check.about("An object is used for at most 512 calls after it has been made;");
        GroebnerFan busy = new GroebnerFan();
        for (int call = 1; call <= 512; call++) {
            Check.due("call " + call, busy.setCoefficient(8, 8, call), (call - 1) % 7);
        }
    }

    private static void setPrime() {
        Check.about("Returns the previous prime; BAD_VALUE if p is not a prime from 2 to 31.");
        GroebnerFan fan = new GroebnerFan();
        Check.due("the least", fan.setPrime(2), 7);
        for (int below : new int[] {1, 0, -1, -2, -7, LEAST}) {
            Check.due("setPrime(" + below + ")", fan.setPrime(below), BAD);
        }
        Check.due("after the refused", fan.prime(), 2);
        Check.due("the greatest", fan.setPrime(31), 2);
        for (int above : new int[] {32, 37, 41, GREATEST}) {
            Check.due("setPrime(" + above + ")", fan.setPrime(above), BAD);
        }
        Check.due("after the refused", fan.prime(), 31);
        Check.due("products", fan.setPrime(4) + fan.setPrime(9) + fan.setPrime(25), 3 * BAD);
        Check.due("30 = 2 * 3 * 5", fan.setPrime(30), BAD);
        Check.about("All points are removed and the current polynomial becomes the zero polynomial.");
        GroebnerFan full = eight();
        for (int k = 0; k < 81; k++) {
            full.setCoefficient(k / 9, k % 9, 30);
        }
        full.storePolynomial(3);
        full.setPrime(2);
        Check.due("of 8 points", full.pointCount(), 0);
        Check.due("of 81 terms", full.termCount(), 0);
        Check.due("the fan without points", full.universalSize(), 1);
        full.setPrime(3);
        Check.due("of no points", full.pointCount(), 0);
        Check.about("Polynomials in slots keep their coefficients unchanged.");
        full.setPrime(31);
        Check.due("81 terms in a slot", full.loadPolynomial(3), 81);
        Check.due("30 in a slot", full.coefficient(8, 8), 30);
    }

    private static void samePrime() {
        Check.about("Setting the prime that there is removes the points as well; input, output and"
                + " slots stay.");
        GroebnerFan fan = Fans.of(7, 3, 4, 6, 6);
        fan.setCoefficient(0, 1, 1);
        fan.storePolynomial(0);
        fan.newArray(3, 20);
        fan.setElement(3, 19, 9999);
        fan.format(0, 0);
        String output = Fans.output(fan);
        Fans.appendAll(fan, "6,0");
        Check.due("setPrime(7)", fan.setPrime(7), 7);
        Check.due("the points", fan.pointCount(), 0);
        Check.due("the polynomial", fan.termCount(), 0);
        Check.due("the output", Fans.output(fan), output);
        Check.due("the array", fan.element(3, 19), 9999);
        Check.due("the polynomial in a slot", fan.loadPolynomial(0), 1);
        Check.due("the input", fan.parsePoints(), 1);
        Check.due("the input's point", Fans.points(fan), "6,0");
    }

    private static void addPoint() {
        Check.about("the x coordinate, 0 to p - 1");
        for (int p : PRIMES) {
            GroebnerFan fan = Fans.of(p);
            Check.due("the least over GF(" + p + ")", fan.addPoint(0, 0), 1);
            Check.due("the greatest over GF(" + p + ")", fan.addPoint(p - 1, p - 1), 2);
            Check.due("x = " + p, fan.addPoint(p, 0), BAD);
            Check.due("y = " + p, fan.addPoint(0, p), BAD);
            Check.due("x = -1", fan.addPoint(-1, 0), BAD);
            Check.due("y = -1", fan.addPoint(0, -1), BAD);
            Check.due("both of the edge", Fans.points(fan), "0,0 " + (p - 1) + "," + (p - 1));
        }
        Check.about("The object stores a list of at most 8 distinct points (x, y) with coordinates in"
                + " GF(p).");
        GroebnerFan fan = Fans.of(31, 0, 0, 1, 0, 2, 0, 3, 0, 4, 0, 5, 0, 6, 0);
        Check.due("the eighth", fan.addPoint(30, 30), 8);
        Check.due("a ninth", fan.addPoint(7, 0), FULL);
        Check.due("still eight", fan.pointCount(), 8);
        fan.removePoint(0);
        Check.due("room again", fan.addPoint(7, 0), 8);
        Check.due("full again", fan.addPoint(0, 0), FULL);
        GroebnerFan two = Fans.of(2, 0, 0, 0, 1, 1, 0, 1, 1);
        Check.due("all four over GF(2)", two.pointCount(), 4);
        Check.due("a fifth over GF(2)", two.addPoint(1, 1), DUPLICATE);
        Check.about("DUPLICATE_POINT if the point is in the list; FULL if there are 8 points (the"
                + " three are checked in this order).");
        Check.due("range ahead of full", fan.addPoint(31, 0), BAD);
        Check.due("the first of eight again", fan.addPoint(1, 0), DUPLICATE);
        Check.due("the last of eight again", fan.addPoint(7, 0), DUPLICATE);
        Check.about("Points are numbered from 0 in list order.");
        Check.due("point 0", 100 * fan.pointX(0) + fan.pointY(0), 100);
        Check.due("point 6", 100 * fan.pointX(6) + fan.pointY(6), 3030);
        Check.due("point 7", 100 * fan.pointX(7) + fan.pointY(7), 700);
    }

    private static void removePoint() {
        Check.about("Returns the new number of points; NO_SUCH_INDEX if there is no such point.");
        GroebnerFan fan = eight();
        Check.due("removePoint(-1)", fan.removePoint(-1), NO);
        Check.due("removePoint(8)", fan.removePoint(8), NO);
        Check.due("the least number", fan.removePoint(LEAST), NO);
        Check.due("the greatest number", fan.removePoint(GREATEST), NO);
        Check.about("Later points move up by one place.");
        Check.due("the last of eight", fan.removePoint(7), 7);
        Check.due("none is behind it", Fans.points(fan), "0,30 30,0 1,2 2,1 3,4 4,3 5,6");
        Check.due("number 7 is no more", fan.removePoint(7), NO);
        Check.due("the first", fan.removePoint(0), 6);
        Check.due("all move up", Fans.points(fan), "30,0 1,2 2,1 3,4 4,3 5,6");
        for (int left = 5; left >= 0; left--) {
            Check.due("down to " + left, fan.removePoint(0), left);
        }
        Check.due("none is left", fan.removePoint(0), NO);
        Check.due("fan without points", fan.universalDegree(), 0);
        Check.about("The current polynomial stays when a point is removed, and its order of terms is"
                + " by the exponents as told.");
        GroebnerFan one = Fans.of(5, 2, 3);
        one.setCoefficient(8, 8, 4);
        one.removePoint(0);
        Check.due("without points", Fans.polynomial(one), "4x8y8");
    }

    private static void pointQuestions() {
        Check.about("Returns the number of points, 0 to 8.");
        Check.due("no points", new GroebnerFan().pointCount(), 0);
        Check.due("eight points", eight().pointCount(), 8);
        Check.about("Returns the x coordinate; NO_SUCH_INDEX if there is no such point.");
        GroebnerFan fan = eight();
        Check.due("pointX(0)", fan.pointX(0), 0);
        Check.due("pointX(7)", fan.pointX(7), 6);
        Check.due("pointX(8)", fan.pointX(8), NO);
        Check.due("pointX(-1)", fan.pointX(-1), NO);
        Check.about("Returns the y coordinate; NO_SUCH_INDEX if there is no such point.");
        Check.due("pointY(0)", fan.pointY(0), 30);
        Check.due("pointY(7)", fan.pointY(7), 5);
        Check.due("pointY(8)", fan.pointY(8), NO);
        Check.due("pointY(-1)", fan.pointY(-1), NO);
        fan.removePoint(7);
        Check.due("pointX(7) of seven", fan.pointX(7), NO);
        Check.due("pointY(7) of seven", fan.pointY(7), NO);
    }

    private static void swapCoordinates() {
        Check.about("Returns 1 if the new list contains the same points as the old list, in any order,"
                + " otherwise 0.");
        Check.due("no points", new GroebnerFan().swapCoordinates(), 1);
        Check.due("one on the diagonal", Fans.of(31, 30, 30).swapCoordinates(), 1);
        Check.due("one beside it", Fans.of(31, 30, 29).swapCoordinates(), 0);
        GroebnerFan fan = eight();
        Check.due("four pairs", fan.swapCoordinates(), 1);
        Check.due("the order is another", Fans.points(fan), "30,0 0,30 2,1 1,2 4,3 3,4 6,5 5,6");
        fan.removePoint(7);
        Check.due("three pairs and a half", fan.swapCoordinates(), 0);
        Check.due("twice is back", fan.swapCoordinates(), 0);
        Check.due("twice is back", Fans.points(fan), "30,0 0,30 2,1 1,2 4,3 3,4 6,5");
        // The first seven are swapped into the list, the eighth is not.
        Check.due("the last alone differs",
                Fans.of(7, 0, 0, 1, 1, 2, 2, 3, 3, 4, 4, 5, 5, 6, 6, 0, 6).swapCoordinates(), 0);
    }

    private static void translate() {
        Check.about("Adds dx to every x coordinate and dy to every y coordinate, modulo p.");
        for (int p : PRIMES) {
            GroebnerFan fan = Fans.of(p, 0, 0, p - 1, p - 1);
            Check.due("by 0", fan.translate(0, 0), 2);
            Check.due("by 0", Fans.points(fan), "0,0 " + (p - 1) + "," + (p - 1));
            Check.due("p - 1 by 1", fan.translate(1, 1), 2);
            Check.due("p - 1 wraps to 0", Fans.points(fan), "1,1 0,0");
            Check.due("by p - 1", fan.translate(p - 1, p - 1), 2);
            Check.due("1 wraps to 0", Fans.points(fan), "0,0 " + (p - 1) + "," + (p - 1));
            Check.due("x alone", fan.translate(p - 1, 0), 2);
            Check.due("x alone", Fans.points(fan), p - 1 + ",0 " + (p - 2) + "," + (p - 1));
            Check.due("dx = p", fan.translate(p, 0), BAD);
            Check.due("dy = p", fan.translate(0, p), BAD);
            Check.due("dx = -1", fan.translate(-1, 0), BAD);
            Check.due("dy = -1", fan.translate(0, -1), BAD);
        }
        Check.about("Returns the number of points; BAD_VALUE if an argument is out of range.");
        Check.due("eight points", eight().translate(30, 30), 8);
        Check.due("no points", new GroebnerFan().translate(6, 6), 0);
        Check.due("no points, and refused", new GroebnerFan().translate(6, 7), BAD);
    }

    private static void scale() {
        Check.about("Multiplies every x coordinate by fx and every y coordinate by fy, modulo p.");
        for (int p : PRIMES) {
            GroebnerFan fan = Fans.of(p, 0, p - 1, p - 1, 1);
            Check.due("by 1", fan.scale(1, 1), 2);
            Check.due("by 1", Fans.points(fan), "0," + (p - 1) + " " + (p - 1) + ",1");
            Check.due("by p - 1", fan.scale(p - 1, p - 1), 2);
            Check.due("(p - 1) * (p - 1) is 1", Fans.points(fan), "0,1 1," + (p - 1));
            Check.due("y alone", fan.scale(1, p - 1), 2);
            Check.due("y alone", Fans.points(fan), "0," + (p - 1) + " 1,1");
            for (int bad : new int[] {0, p, -1, p + 1, LEAST, GREATEST}) {
                Check.due("fx = " + bad, fan.scale(bad, 1), BAD);
                Check.due("fy = " + bad, fan.scale(1, bad), BAD);
            }
            Check.due("refusals change nothing", Fans.points(fan), "0," + (p - 1) + " 1,1");
        }
        Check.due("eight points", eight().scale(30, 1), 8);
        Check.due("no points", new GroebnerFan().scale(6, 6), 0);
        Check.due("no points, and refused", new GroebnerFan().scale(0, 1), BAD);
    }

    public static void main(String[] args) {
        newObject();
        setPrime();
        samePrime();
        addPoint();
        removePoint();
        pointQuestions();
        swapCoordinates();
        translate();
        scale();
        Check.finish("PointEdgesTest");
    }
}
