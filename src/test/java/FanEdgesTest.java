/** Promises 15 to 28: the sentences of the document that name a boundary case, each by itself. */
public final class FanEdgesTest {
    private static final int NO = GroebnerFan.NO_SUCH_INDEX;
    private static final int BAD = GroebnerFan.BAD_VALUE;
    private static final int NONE = GroebnerFan.NONE;
    private static final int LEAST = Integer.MIN_VALUE;
    private static final int GREATEST = Integer.MAX_VALUE;

    private FanEdgesTest() {
    }

    private static GroebnerFan column() {
        return Fans.of(31, 5, 0, 5, 1, 5, 2, 5, 3, 5, 4, 5, 5, 5, 6, 5, 30);
    }

    private static GroebnerFan row() {
        return Fans.of(31, 0, 5, 1, 5, 2, 5, 3, 5, 4, 5, 5, 5, 6, 5, 30, 5);
    }

    /** Columns of 4, 3 and 1: four polynomials in the basis of the only cone. */
    private static GroebnerFan stairs() {
        return Fans.of(31, 0, 0, 0, 1, 0, 2, 0, 3, 1, 0, 1, 1, 1, 2, 2, 0);
    }

    /** Eight points of x = y^7: the walls go from 1/7 to 7/1. */
    private static GroebnerFan seventh() {
        GroebnerFan fan = Fans.of(31);
        for (int y = 0; y < 8; y++) {
            fan.addPoint(y * y * y % 31 * y * y % 31 * y * y % 31, y);
        }
        return fan;
    }

    private static GroebnerFan parabola() {
        return Fans.of(7, 0, 0, 1, 1, 4, 2);
    }

    /** Objects of every kind: none, one, few and eight points, one cone and many. */
    private static GroebnerFan[] kinds() {
        return new GroebnerFan[] {
            new GroebnerFan(), Fans.of(2, 1, 1), Fans.of(31, 30, 30), Fans.of(2, 0, 0, 1, 1),
            Fans.of(2, 0, 0, 0, 1, 1, 0, 1, 1), Fans.of(3, 0, 0, 0, 1, 1, 0, 2, 2), parabola(),
            column(), row(), stairs(), seventh(),
            Fans.of(31, 0, 30, 30, 0, 1, 2, 2, 1, 3, 4, 4, 3, 5, 6, 6, 5),
            Fans.of(31, 0, 0, 1, 2, 2, 1, 3, 3, 30, 4, 5, 30, 6, 11, 7, 7)
        };
    }

    private static void coneCount() {
        Check.about("Returns the number of cones, at least 1.");
        Check.due("no points", new GroebnerFan().coneCount(), 1);
        Check.due("one point", Fans.of(31, 30, 30).coneCount(), 1);
        Check.due("eight in a column", column().coneCount(), 1);
        Check.due("eight in a row", row().coneCount(), 1);
        Check.due("stairs", stairs().coneCount(), 1);
        Check.due("all points of GF(2)", Fans.of(2, 0, 0, 0, 1, 1, 0, 1, 1).coneCount(), 1);
        Check.due("two points", Fans.of(2, 0, 0, 1, 1).coneCount(), 2);
        Check.due("x = y^7", seventh().coneCount(), 10);
        Check.about("Cone 0 belongs to the weight (1, 0) with TIE_Y.");
        for (GroebnerFan fan : kinds()) {
            Check.due("heights of " + Fans.points(fan), Fans.heights(fan, 0),
                    Fans.heights(fan, 1, 0, GroebnerFan.TIE_Y));
        }
        Check.about("If there is no such pair, the cone is the last one and has no wall.");
        for (GroebnerFan fan : kinds()) {
            int last = fan.coneCount() - 1;
            Check.due("heights of " + Fans.points(fan), Fans.heights(fan, last),
                    Fans.heights(fan, 0, 1, GroebnerFan.TIE_X));
            Check.due("wall of " + Fans.points(fan), fan.wallNumerator(last), NONE);
            Check.due("wall of " + Fans.points(fan), fan.wallDenominator(last), NONE);
        }
    }

    private static void walls() {
        Check.about("Returns the numerator; NO_SUCH_INDEX if there is no such cone; NONE if it is the"
                + " last cone.");
        GroebnerFan fan = seventh();
        Check.due("the least wall is 1/7", fan.wallNumerator(0), 1);
        Check.due("the greatest wall is 7/1", fan.wallNumerator(8), 7);
        Check.due("the last cone", fan.wallNumerator(9), NONE);
        Check.due("behind the last cone", fan.wallNumerator(10), NO);
        Check.due("cone -1", fan.wallNumerator(-1), NO);
        Check.due("the only cone", new GroebnerFan().wallNumerator(0), NONE);
        Check.due("behind the only cone", new GroebnerFan().wallNumerator(1), NO);
        Check.about("Returns the denominator; NO_SUCH_INDEX if there is no such cone; NONE if it is the"
                + " last cone.");
        Check.due("the least wall is 1/7", fan.wallDenominator(0), 7);
        Check.due("the greatest wall is 7/1", fan.wallDenominator(8), 1);
        Check.due("the last cone", fan.wallDenominator(9), NONE);
        Check.due("behind the last cone", fan.wallDenominator(10), NO);
        Check.due("cone -1", fan.wallDenominator(-1), NO);
        Check.due("the only cone", new GroebnerFan().wallDenominator(0), NONE);
        Check.due("behind the only cone", new GroebnerFan().wallDenominator(1), NO);
        Check.about("Every wall is positive and greater than the wall of the previous cone.");
        for (GroebnerFan one : kinds()) {
            int top = 0;
            int bottom = 1;
            for (int cone = 0; cone + 1 < one.coneCount(); cone++) {
                int s = one.wallNumerator(cone);
                int r = one.wallDenominator(cone);
                Check.due("wall " + s + "/" + r, s > 0 && r > 0 && s * bottom > top * r ? 1 : 0, 1);
                for (int d = 2; d <= 8; d++) {
                    Check.due("in lowest terms: " + s + "/" + r, s % d == 0 && r % d == 0 ? 1 : 0, 0);
                }
                top = s;
                bottom = r;
            }
        }
    }

    private static void neighbours() {
        for (GroebnerFan fan : kinds()) {
            for (int cone = 0; cone + 1 < fan.coneCount(); cone++) {
                int s = fan.wallNumerator(cone);
                int r = fan.wallDenominator(cone);
                Check.about("If the wall is the fraction s / r in lowest terms, the next cone belongs to"
                        + " the weight (r, s) with TIE_Y.");
                Check.due("behind " + s + "/" + r, Fans.heights(fan, cone + 1),
                        Fans.heights(fan, r, s, GroebnerFan.TIE_Y));
                Check.about("The tie rule plays no part in this.");
                Check.due("the cone ahead of " + s + "/" + r, fan.firstConeContaining(r, s), cone);
                Check.due("both cones at " + s + "/" + r, fan.conesContaining(r, s), 2);
                Check.due("the heights ahead of " + s + "/" + r, Fans.heights(fan, cone),
                        Fans.heights(fan, r, s, GroebnerFan.TIE_X));
            }
        }
    }

    /** All weights of some rows against the walls. */
    private static void containing() {
        Check.about("A cone contains the weight (u, v) if v / u is at least the wall of the previous cone"
                + " and at most the wall of the cone itself.");
        for (int u : new int[] {1, 2, 3, 7, 49, 98, 99}) {
            GroebnerFan fan = seventh();
            for (int v = 0; v <= 99; v++) {
                int first = 0;
                int onWall = 0;
                for (int cone = 0; cone < 9; cone++) {
                    int above = v * fan.wallDenominator(cone) - fan.wallNumerator(cone) * u;
                    first += above > 0 ? 1 : 0;
                    onWall += above == 0 ? 1 : 0;
                }
                Check.due("first with " + u + ", " + v, fan.firstConeContaining(u, v), first);
                Check.due("cones with " + u + ", " + v, fan.conesContaining(u, v), 1 + onWall);
            }
        }
        GroebnerFan fan = seventh();
        Check.about("There is no lower limit for cone 0 and no upper limit for the last cone.");
        Check.due("(1, 0)", fan.firstConeContaining(1, 0), 0);
        Check.due("(99, 0)", fan.firstConeContaining(99, 0), 0);
        Check.due("(99, 0)", fan.conesContaining(99, 0), 1);
        Check.due("(1, 99)", fan.firstConeContaining(1, 99), 9);
        Check.due("(1, 99)", fan.conesContaining(1, 99), 1);
        Check.about("If u is 0, then v / u counts as greater than every fraction.");
        Check.due("(0, 1)", fan.firstConeContaining(0, 1), 9);
        Check.due("(0, 99)", fan.firstConeContaining(0, 99), 9);
        Check.due("(0, 1)", fan.conesContaining(0, 1), 1);
        Check.about("A weight on a wall is contained in two cones.");
        Check.due("the least wall", fan.conesContaining(98, 14), 2);
        Check.due("the least wall's first", fan.firstConeContaining(98, 14), 0);
        Check.due("below the least wall", fan.conesContaining(99, 14), 1);
        Check.due("below the least wall", fan.firstConeContaining(99, 14), 0);
        Check.due("above the least wall", fan.conesContaining(97, 14), 1);
        Check.due("above the least wall", fan.firstConeContaining(97, 14), 1);
        Check.due("the greatest wall", fan.conesContaining(14, 98), 2);
        Check.due("the greatest wall's first", fan.firstConeContaining(14, 98), 8);
        Check.due("below the greatest wall", fan.firstConeContaining(14, 97), 8);
        Check.due("above the greatest wall", fan.firstConeContaining(14, 99), 9);
        Check.due("above the greatest wall", fan.conesContaining(14, 99), 1);
    }

    private static void weights() {
        Check.about("Where there is one cone, it alone contains weights.");
        GroebnerFan[] single = {new GroebnerFan(), Fans.of(31, 30, 30), column(), row(), stairs()};
        int[][] taken = {{1, 0}, {0, 1}, {1, 1}, {99, 0}, {0, 99}, {99, 99}, {1, 99}, {99, 1}};
        for (GroebnerFan fan : single) {
            for (int[] w : taken) {
                Check.due(w[0] + ", " + w[1], fan.firstConeContaining(w[0], w[1]), 0);
                Check.due(w[0] + ", " + w[1], fan.conesContaining(w[0], w[1]), 1);
            }
        }
        Check.about("BAD_VALUE if u or v is out of range or both are 0.");
        int[][] refused = {
            {0, 0}, {-1, 0}, {0, -1}, {-1, 1}, {1, -1}, {100, 0}, {0, 100}, {100, 100}, {LEAST, 1},
            {1, LEAST}, {GREATEST, 1}, {1, GREATEST}
        };
        for (GroebnerFan fan : new GroebnerFan[] {new GroebnerFan(), seventh()}) {
            for (int[] w : refused) {
                Check.due(w[0] + ", " + w[1], fan.firstConeContaining(w[0], w[1]), BAD);
                Check.due(w[0] + ", " + w[1], fan.conesContaining(w[0], w[1]), BAD);
            }
        }
    }

    private static void coneHeight() {
        Check.about("Returns the height; NO_SUCH_INDEX if there is no such cone or column.");
        Check.due("height 8", column().coneHeight(0, 0), 8);
        Check.due("behind it", column().coneHeight(0, 1), 0);
        Check.due("column 7", row().coneHeight(0, 7), 1);
        Check.due("column 8", row().coneHeight(0, 8), 0);
        Check.due("the last cone", seventh().coneHeight(9, 7), 1);
        Check.due("without points", new GroebnerFan().coneHeight(0, 0), 0);
        for (int bad : new int[] {-1, 9, LEAST, GREATEST}) {
            Check.due("column " + bad, row().coneHeight(0, bad), NO);
            Check.due("cone " + bad, row().coneHeight(bad, 0), NO);
            Check.due("cone and column " + bad, row().coneHeight(bad, bad), NO);
        }
        Check.due("behind the only cone", row().coneHeight(1, 0), NO);
        Check.due("behind the last cone", seventh().coneHeight(10, 0), NO);
    }

    private static void basis() {
        Check.about("Returns the number of polynomials; NO_SUCH_INDEX if there is no such cone.");
        Check.due("the fewest", new GroebnerFan().basisSize(0), 1);
        Check.due("the most", stairs().basisSize(0), 4);
        Check.due("the last cone", seventh().basisSize(9), 2);
        Check.due("behind the last cone", seventh().basisSize(10), NO);
        Check.due("behind the only cone", new GroebnerFan().basisSize(1), NO);
        Check.due("cone -1", new GroebnerFan().basisSize(-1), NO);
        Check.about("Returns 10 times the x exponent plus the y exponent; NO_SUCH_INDEX if there is no"
                + " such cone or polynomial.");
        Check.due("1", new GroebnerFan().basisCorner(0, 0), 0);
        Check.due("behind 1", new GroebnerFan().basisCorner(0, 1), NO);
        Check.due("y^8", column().basisCorner(0, 0), 8);
        Check.due("x^8", row().basisCorner(0, 1), 80);
        Check.due("behind x^8", row().basisCorner(0, 2), NO);
        Check.due("the last of four", stairs().basisCorner(0, 3), 30);
        Check.due("behind the last of four", stairs().basisCorner(0, 4), NO);
        Check.due("polynomial -1", stairs().basisCorner(0, -1), NO);
        Check.due("cone -1", stairs().basisCorner(-1, 0), NO);
        Check.due("behind the only cone", stairs().basisCorner(1, 0), NO);
        Check.due("x^8 of the last cone", seventh().basisCorner(9, 1), 80);
        Check.due("behind the last cone", seventh().basisCorner(10, 0), NO);
        Check.about("Returns the coefficient; NO_SUCH_INDEX if there is no such cone, polynomial or"
                + " monomial.");
        Check.due("1 at x^8", row().basisCoefficient(0, 1, 8, 0), 1);
        Check.due("0 at x^8 y^8", row().basisCoefficient(0, 1, 8, 8), 0);
        Check.due("1 at y^8", column().basisCoefficient(0, 0, 0, 8), 1);
        Check.due("30 at y^7", seventh().basisCoefficient(0, 1, 0, 7), 30);
        Check.due("1 at 1", new GroebnerFan().basisCoefficient(0, 0, 0, 0), 1);
        Check.due("0 at x", new GroebnerFan().basisCoefficient(0, 0, 1, 0), 0);
        for (int bad : new int[] {-1, 9, 10, LEAST, GREATEST}) {
            Check.due("x exponent " + bad, row().basisCoefficient(0, 1, bad, 0), NO);
            Check.due("y exponent " + bad, row().basisCoefficient(0, 1, 0, bad), NO);
            Check.due("polynomial " + bad, row().basisCoefficient(0, bad, 0, 0), NO);
            Check.due("cone " + bad, row().basisCoefficient(bad, 0, 0, 0), NO);
        }
        Check.due("behind the last polynomial", row().basisCoefficient(0, 2, 0, 0), NO);
        Check.due("behind the last cone", row().basisCoefficient(1, 0, 0, 0), NO);
    }

    /** What the document says of every reduced basis, read back by the class's own questions. */
    private static void reducedBases() {
        Check.about("exactly one polynomial of the vanishing ideal that has coefficient 1 at the corner"
                + " and whose other monomials with nonzero coefficient are standard and smaller than"
                + " the corner.");
        for (GroebnerFan fan : kinds()) {
            for (int cone = 0; cone < fan.coneCount(); cone++) {
                for (int k = 0; k < fan.basisSize(cone); k++) {
                    int corner = fan.basisCorner(cone, k);
                    Check.due("at the corner", fan.basisCoefficient(cone, k, corner / 10, corner % 10), 1);
                    int others = 0;
                    for (int m = 0; m < 81; m++) {
                        boolean isOther = 10 * (m / 9) + m % 9 != corner;
                        if (isOther && fan.basisCoefficient(cone, k, m / 9, m % 9) != 0) {
                            others += m % 9 < fan.coneHeight(cone, m / 9) ? 1 : 100;
                        }
                    }
                    Check.due("its terms", fan.loadBasisPolynomial(cone, k), others + 1);
                    Check.due("in the ideal", fan.isVanishing(), 1);
                    Check.due("reduced to nothing", fan.reduceToNormalForm(cone), 0);
                }
            }
        }
        Check.about("Field elements are written as integers from 0 to p - 1.");
        for (GroebnerFan fan : kinds()) {
            int outside = 0;
            for (int cone = 0; cone < fan.coneCount(); cone++) {
                for (int k = 0; k < 81 * fan.basisSize(cone); k++) {
                    int factor = fan.basisCoefficient(cone, k / 81, k % 81 / 9, k % 9);
                    outside += factor < 0 || factor >= fan.prime() ? 1 : 0;
                }
            }
            Check.due("coefficients of the bases over GF(" + fan.prime() + ")", outside, 0);
        }
        Check.about("Corners are listed by increasing x exponent.");
        for (GroebnerFan fan : kinds()) {
            for (int cone = 0; cone < fan.coneCount(); cone++) {
                for (int k = 1; k < fan.basisSize(cone); k++) {
                    int rises = fan.basisCorner(cone, k) / 10 - fan.basisCorner(cone, k - 1) / 10;
                    Check.due("corners of cone " + cone, rises > 0 ? 1 : 0, 1);
                }
            }
        }
    }

    private static void changedCorners() {
        Check.about("Returns the number of corners; NO_SUCH_INDEX if there is no such cone; NONE if it is"
                + " the last cone.");
        GroebnerFan fan = seventh();
        Check.due("y^8 and x", fan.changedCorners(0), 2);
        Check.due("all but y^2", fan.changedCorners(7), 2);
        Check.due("the last but one", fan.changedCorners(8), 3);
        Check.due("the last", fan.changedCorners(9), NONE);
        Check.due("behind the last", fan.changedCorners(10), NO);
        Check.due("cone -1", fan.changedCorners(-1), NO);
        Check.due("the least number", fan.changedCorners(LEAST), NO);
        Check.due("the greatest number", fan.changedCorners(GREATEST), NO);
        Check.due("the only one", new GroebnerFan().changedCorners(0), NONE);
        Check.due("behind the only one", new GroebnerFan().changedCorners(1), NO);
        Check.about("Corners that change are compared as monomials.");
        // xy + y^2 + 2y becomes xy + x^2 + 2x, and its corner xy stays; y^3 and x^2 go.
        GroebnerFan three = Fans.of(3, 0, 0, 0, 1, 1, 0, 2, 2);
        Check.due("xy before", Fans.format(three, 0, 1), "1x1y1+1y2+2y1");
        Check.due("xy behind", Fans.format(three, 1, 1), "1x1y1+1x2+2x1");
        Check.due("xy stays", three.changedCorners(0), 2);
        // x + y has the corner x and then the corner y; x^2 + x and y^2 + y are other ones.
        Check.due("x + y changes its corner", Fans.of(7, 0, 0, 1, 6).changedCorners(0), 2);
    }

    private static void universal() {
        Check.about("Without points, the universal basis has one element, the polynomial 1,");
        GroebnerFan fan = new GroebnerFan();
        Check.due("universalSize()", fan.universalSize(), 1);
        Check.due("universalDegree()", fan.universalDegree(), 0);
        fan.addPoint(1, 1);
        fan.removePoint(0);
        Check.due("without points again", fan.universalSize(), 1);
        Check.due("without points again", fan.universalDegree(), 0);
        Check.about("The universal basis is the list of all distinct polynomials in the reduced bases of"
                + " all cones.");
        Check.due("one cone", stairs().universalSize(), 4);
        Check.due("one point", Fans.of(31, 30, 30).universalSize(), 2);
        Check.due("x + y has two corners and is one polynomial",
                Fans.of(7, 0, 0, 1, 6).universalSize(), 3);
        Check.due("x + 6y and y + 6x are two", Fans.of(7, 0, 0, 1, 1).universalSize(), 4);
        Check.due("xy with other terms is another", Fans.of(3, 0, 0, 0, 1, 1, 0, 2, 2).universalSize(), 6);
        // The bases have 2, 3, 3, 3, 4, 4, 3, 3, 3 and 2 polynomials, and none in common.
        Check.due("ten cones", seventh().universalSize(), 30);
        // Two cones have the polynomial with the corner x^3 y in common.
        Check.due("cones with a polynomial in common", kinds()[12].universalSize(), 29);
        Check.about("Returns the maximum total degree i + j of a monomial with nonzero coefficient in a"
                + " polynomial of the universal basis.");
        Check.due("x^8", row().universalDegree(), 8);
        Check.due("y^8", column().universalDegree(), 8);
        Check.due("one point", Fans.of(31, 30, 30).universalDegree(), 1);
        Check.due("at the origin", Fans.of(31, 0, 0).universalDegree(), 1);
        // x y^3 and y^4 of the stairs
        Check.due("4", stairs().universalDegree(), 4);
        Check.due("ten cones", seventh().universalDegree(), 8);
    }

    private static void mirroredCone() {
        Check.about("A cone can be its own mirrored one.");
        Check.due("without points", new GroebnerFan().mirroredCone(0), 0);
        Check.due("one point", Fans.of(31, 30, 30).mirroredCone(0), 0);
        Check.due("the cone in the middle", parabola().mirroredCone(1), 1);
        Check.due("all points of GF(2)", Fans.of(2, 0, 0, 0, 1, 1, 0, 1, 1).mirroredCone(0), 0);
        Check.about("Returns the number of the mirrored cone; NO_SUCH_INDEX if there is no such cone;"
                + " NONE if no cone is mirrored.");
        GroebnerFan fan = seventh();
        Check.due("the first", fan.mirroredCone(0), 9);
        Check.due("the last", fan.mirroredCone(9), 0);
        Check.due("behind the last", fan.mirroredCone(10), NO);
        Check.due("cone -1", fan.mirroredCone(-1), NO);
        Check.due("the greatest number", fan.mirroredCone(GREATEST), NO);
        Check.due("eight in a column", column().mirroredCone(0), NONE);
        Check.due("eight in a row", row().mirroredCone(0), NONE);
        Check.due("stairs", stairs().mirroredCone(0), NONE);
        Check.due("behind the only one", column().mirroredCone(1), NO);
        Check.due("behind the only one, without points", new GroebnerFan().mirroredCone(1), NO);
    }

    private static void flattestCone() {
        Check.about("Without points this is cone 0.");
        Check.due("no points", new GroebnerFan().flattestCone(), 0);
        GroebnerFan fan = seventh();
        Check.about("Returns the first cone for which the maximum total degree i + j of a standard"
                + " monomial is minimal.");
        // 7, 6, 5, 4, 3, 3, 4, 5, 6, 7 by the heights 8, 71, 62, 53, 431, 3311, ..
        Check.due("the first of two", fan.flattestCone(), 4);
        for (int k = 0; k < 8; k++) {
            fan.removePoint(0);
        }
        Check.due("without points again", fan.flattestCone(), 0);
        Check.due("eight in a row", row().flattestCone(), 0);
        Check.due("two alike", Fans.of(2, 0, 0, 1, 1).flattestCone(), 0);
        Check.due("the second of three", parabola().flattestCone(), 1);
    }

    public static void main(String[] args) {
        coneCount();
        walls();
        neighbours();
        containing();
        weights();
        coneHeight();
        basis();
        reducedBases();
        changedCorners();
        universal();
        mirroredCone();
        flattestCone();
        Check.finish("FanEdgesTest");
    }
}
