/**
 * Promises 15 to 28: the fan. Most of the tests ask about the points (0, 0), (1, 1), (4, 2) over
 * GF(7), which lie on x = y^2. By hand: y^3 + 4y^2 + 2y and x + 6y^2 are the first basis; its wall
 * is 1/2, by x and y^2. At the weight (2, 1) the basis is y^2 + 6x, xy + 4x + 2y, x^2 + 6y; its wall
 * is 2/1, by x^2 and y. At (1, 2) it is y + 6x^2 and x^3 + 2x^2 + 4x, and there is no wall.
 */
public final class FanTest {
    private static final int NO = GroebnerFan.NO_SUCH_INDEX;
    private static final int NONE = GroebnerFan.NONE;
    private static final int BAD = GroebnerFan.BAD_VALUE;
    private static final int[] FAR = {-1, 3, 22, 100, Integer.MAX_VALUE, Integer.MIN_VALUE};

    private FanTest() {
    }

    private static GroebnerFan parabola() {
        return Fans.of(7, 0, 0, 1, 1, 4, 2);
    }

    /** Points with x = -y: x + y is in both bases and counts once. */
    private static GroebnerFan antidiagonal() {
        return Fans.of(7, 0, 0, 1, 6);
    }

    private static String bases(GroebnerFan fan) {
        StringBuilder text = new StringBuilder();
        for (int cone = 0; cone < fan.coneCount(); cone++) {
            text.append(cone == 0 ? "" : " | ");
            for (int k = 0; k < fan.basisSize(cone); k++) {
                text.append(k == 0 ? "" : " ").append(Fans.format(fan, cone, k));
            }
        }
        return text.toString();
    }

    private static String walls(GroebnerFan fan) {
        StringBuilder text = new StringBuilder();
        for (int cone = 0; cone < fan.coneCount(); cone++) {
            text.append(fan.wallNumerator(cone)).append('/').append(fan.wallDenominator(cone));
            text.append(' ');
        }
        return text.toString().trim();
    }

    private static void conesAndWalls() {
        GroebnerFan fan = parabola();
        Check.due("15: coneCount()", fan.coneCount(), 3);
        Check.due("15: bases", bases(fan), "1y3+4y2+2y1 1x1+6y2"
                + " | 1y2+6x1 1x1y1+4x1+2y1 1x2+6y1 | 1y1+6x2 1x3+2x2+4x1");
        Check.due("16, 17: walls", walls(fan), "1/2 2/1 -5/-5");
        Check.due("15: without points", new GroebnerFan().coneCount(), 1);
        Check.due("16, 17: without points", walls(new GroebnerFan()), "-5/-5");
        Check.due("15: a column", Fans.of(7, 3, 0, 3, 1, 3, 5).coneCount(), 1);
        Check.due("15: two cones", antidiagonal().coneCount(), 2);
        Check.due("16, 17: two cones", walls(antidiagonal()), "1/1 -5/-5");
        // x = y^4 at five points over GF(17)
        Check.due("17: x = y^4", Fans.of(17, 0, 0, 1, 1, 16, 2, 13, 3, 1, 4).wallDenominator(0), 4);
        for (int cone : FAR) {
            Check.due("16: cone " + cone, fan.wallNumerator(cone), NO);
            Check.due("17: cone " + cone, fan.wallDenominator(cone), NO);
        }
    }

    /** (0,0), (1,1), (4,2), (2,3) on x = y^2 over GF(7). */
    private static void lowestTerms() {
        GroebnerFan fan = Fans.of(7, 0, 0, 1, 1, 4, 2, 2, 3);
        for (int cone = 0; cone + 1 < fan.coneCount(); cone++) {
            int top = fan.wallNumerator(cone);
            int bottom = fan.wallDenominator(cone);
            for (int d = 2; d <= 8; d++) {
                Check.due("16, 17: lowest terms", top % d == 0 && bottom % d == 0 ? 1 : 0, 0);
            }
        }
        // Four points of x^2 + y^2 = 1 and xy = 0: x^2 and y^2 make the fraction 2/2.
        GroebnerFan circle = Fans.of(5, 0, 1, 0, 4, 1, 0, 4, 0);
        Check.due("16, 17: 2/2 is 1/1", walls(circle), "1/1 -5/-5");
        Check.due("15: x^2 + y^2 = 1", bases(circle), "1y3+4y1 1x1y1 1x2+1y2+4"
                + " | 1y2+1x2+4 1x1y1 1x3+4x1");
        Check.due("25: x^2 + y^2 - 1 and xy count once", circle.universalSize(), 4);
        Check.due("24: xy stays", circle.changedCorners(0), 2);
    }

    private static void containing() {
        GroebnerFan fan = parabola();
        int[][] due = {
            {1, 0, 0, 1}, {99, 0, 0, 1}, {99, 49, 0, 1}, {3, 1, 0, 1}, {2, 1, 0, 2}, {98, 49, 0, 2},
            {97, 49, 1, 1}, {1, 1, 1, 1}, {50, 99, 1, 1}, {1, 2, 1, 2}, {49, 98, 1, 2},
            {49, 99, 2, 1}, {1, 3, 2, 1}, {1, 99, 2, 1}, {0, 1, 2, 1}, {0, 99, 2, 1}
        };
        for (int[] d : due) {
            String weight = "(" + d[0] + ", " + d[1] + ")";
            Check.due("18: first with " + weight, fan.firstConeContaining(d[0], d[1]), d[2]);
            Check.due("19: cones with " + weight, fan.conesContaining(d[0], d[1]), d[3]);
        }
        int[][] bad = {{0, 0}, {-1, 1}, {1, -1}, {100, 1}, {1, 100}, {-3, 3}, {Integer.MIN_VALUE, 5}};
        for (int[] b : bad) {
            Check.due("18: " + b[0] + ", " + b[1], fan.firstConeContaining(b[0], b[1]), BAD);
            Check.due("19: " + b[0] + ", " + b[1], fan.conesContaining(b[0], b[1]), BAD);
        }
        GroebnerFan none = new GroebnerFan();
        int[][] weights = {{1, 0}, {0, 1}, {1, 1}, {99, 99}};
        for (int[] w : weights) {
            Check.due("18: one cone", none.firstConeContaining(w[0], w[1]), 0);
            Check.due("19: one cone", none.conesContaining(w[0], w[1]), 1);
        }
    }

    private static void coneHeight() {
        GroebnerFan fan = parabola();
        Check.due("20: cone 0", Fans.heights(fan, 0), "300000000");
        Check.due("20: cone 1", Fans.heights(fan, 1), "210000000");
        Check.due("20: cone 2", Fans.heights(fan, 2), "111000000");
        Check.due("20: without points", Fans.heights(new GroebnerFan(), 0), "000000000");
        for (int index : FAR) {
            Check.due("20: cone " + index, fan.coneHeight(index, 0), NO);
        }
        for (int column : new int[] {-1, 9, Integer.MAX_VALUE, Integer.MIN_VALUE}) {
            Check.due("20: column " + column, fan.coneHeight(0, column), NO);
        }
    }

    private static void basis() {
        GroebnerFan fan = parabola();
        int[] sizes = {2, 3, 2};
        int[][] corners = {{3, 10}, {2, 11, 20}, {1, 30}};
        for (int cone = 0; cone < 3; cone++) {
            Check.due("21: cone " + cone, fan.basisSize(cone), sizes[cone]);
            for (int k = 0; k < sizes[cone]; k++) {
                Check.due("22: " + cone + ", " + k, fan.basisCorner(cone, k), corners[cone][k]);
            }
            for (int k : new int[] {-1, sizes[cone], 9, Integer.MAX_VALUE, Integer.MIN_VALUE}) {
                Check.due("22: " + cone + ", " + k, fan.basisCorner(cone, k), NO);
                Check.due("23: " + cone + ", " + k, fan.basisCoefficient(cone, k, 0, 0), NO);
            }
        }
        for (int cone : FAR) {
            Check.due("21: cone " + cone, fan.basisSize(cone), NO);
            Check.due("22: cone " + cone, fan.basisCorner(cone, 0), NO);
            Check.due("23: cone " + cone, fan.basisCoefficient(cone, 0, 0, 0), NO);
        }
        Check.due("21: without points", new GroebnerFan().basisSize(0), 1);
        Check.due("22: without points", new GroebnerFan().basisCorner(0, 0), 0);
        Check.due("22: without points", new GroebnerFan().basisCorner(0, 1), NO);
        Check.due("23: without points", new GroebnerFan().basisCoefficient(0, 0, 0, 0), 1);
        Check.due("23: without points", new GroebnerFan().basisCoefficient(0, 0, 8, 8), 0);
    }

    private static void basisCoefficient() {
        GroebnerFan fan = parabola();
        // x y + 4 x + 2 y
        for (int i = 0; i <= 8; i++) {
            for (int j = 0; j <= 8; j++) {
                int due = i == 1 && j == 1 ? 1 : i == 1 && j == 0 ? 4 : i == 0 && j == 1 ? 2 : 0;
                Check.due("23: " + i + ", " + j, fan.basisCoefficient(1, 1, i, j), due);
            }
        }
        for (int bad : new int[] {-1, 9, Integer.MAX_VALUE, Integer.MIN_VALUE}) {
            Check.due("23: i " + bad, fan.basisCoefficient(1, 1, bad, 0), NO);
            Check.due("23: j " + bad, fan.basisCoefficient(1, 1, 0, bad), NO);
        }
    }

    private static void changedCorners() {
        GroebnerFan fan = parabola();
        Check.due("24: y^3, x", fan.changedCorners(0), 2);
        Check.due("24: y^2, xy, x^2", fan.changedCorners(1), 3);
        Check.due("24: the last cone", fan.changedCorners(2), NONE);
        Check.due("24: without points", new GroebnerFan().changedCorners(0), NONE);
        for (int cone : FAR) {
            Check.due("24: cone " + cone, fan.changedCorners(cone), NO);
        }
    }

    private static void universal() {
        GroebnerFan fan = parabola();
        Check.due("25: universalSize()", fan.universalSize(), 7);
        Check.due("26: universalDegree()", fan.universalDegree(), 3);
        Check.due("25: without points", new GroebnerFan().universalSize(), 1);
        Check.due("26: without points", new GroebnerFan().universalDegree(), 0);
        // y^2 + y, x + y and x^2 + x
        Check.due("25: x + y counts once", antidiagonal().universalSize(), 3);
        // y^2 + 6 y, x + 6 y, y + 6 x and x^2 + 6 x
        Check.due("25: x - y and y - x are two", Fans.of(7, 0, 0, 1, 1).universalSize(), 4);
        Check.due("25: x + y over GF(2)", Fans.of(2, 0, 0, 1, 1).universalSize(), 3);
        Check.due("26: degree 2", antidiagonal().universalDegree(), 2);
        // y + 22 and x^8 + ..
        GroebnerFan row = Fans.of(31, 0, 9, 1, 9, 2, 9, 3, 9, 4, 9, 5, 9, 6, 9, 30, 9);
        Check.due("25: a row", row.universalSize(), 2);
        Check.due("26: a row", row.universalDegree(), 8);
    }

    private static void mirroredCone() {
        GroebnerFan fan = parabola();
        Check.due("27: cone 0", fan.mirroredCone(0), 2);
        Check.due("27: its own", fan.mirroredCone(1), 1);
        Check.due("27: cone 2", fan.mirroredCone(2), 0);
        for (int cone : FAR) {
            Check.due("27: cone " + cone, fan.mirroredCone(cone), NO);
        }
        Check.due("27: without points", new GroebnerFan().mirroredCone(0), 0);
        Check.due("27: a column alone", Fans.of(7, 0, 0, 0, 1).mirroredCone(0), NONE);
        Check.due("27: one point", Fans.of(7, 4, 2).mirroredCone(0), 0);
        // 1, y, y^2 and x: the mirror has 1, x, x^2 and y.
        GroebnerFan one = Fans.of(7, 0, 0, 0, 1, 0, 2, 1, 0);
        Check.due("27: heights 3, 1", Fans.heights(one, 0), "310000000");
        Check.due("27: heights 3, 1", one.mirroredCone(0), NONE);
    }

    private static void flattestCone() {
        Check.due("28: degrees 2, 1, 2", parabola().flattestCone(), 1);
        Check.due("28: the first of equals", antidiagonal().flattestCone(), 0);
        Check.due("28: without points", new GroebnerFan().flattestCone(), 0);
        Check.due("28: one cone", Fans.of(7, 0, 0, 0, 1).flattestCone(), 0);
    }

    /** One row of numbers for each cone: wall, changed corners, mirrored cone. */
    private static String cones(GroebnerFan fan) {
        StringBuilder text = new StringBuilder();
        for (int cone = 0; cone < fan.coneCount(); cone++) {
            text.append(cone == 0 ? "" : ", ");
            text.append(fan.wallNumerator(cone)).append('/').append(fan.wallDenominator(cone));
            text.append(' ').append(fan.changedCorners(cone));
            text.append(' ').append(fan.mirroredCone(cone));
        }
        return text.toString();
    }

    /** Points by lot; what is due was told by the model of ModelTest. */
    private static void scatteredPoints() {
        GroebnerFan fan = Fans.of(11, 0, 10, 0, 9, 1, 9, 3, 1, 2, 2, 1, 0);
        Check.due("15 to 27: four cones", cones(fan),
                "1/3 2 -5, 2/3 2 3, 3/2 3 2, -5/-5 -5 1");
        Check.due("25: polynomials stay over walls", fan.universalSize(), 12);
        Check.due("26: y^5", fan.universalDegree(), 5);
        Check.due("28: degree 2", fan.flattestCone(), 2);
        fan = Fans.of(5, 0, 3, 1, 3, 1, 1, 2, 1, 3, 0, 1, 0);
        Check.due("15 to 27: y^3 stays a corner", cones(fan), "1/1 1 -5, -5/-5 -5 -5");
        Check.due("23: bases", bases(fan), "1y3+1y2+3y1 1x2+1x1y1+1x1+4y1+3"
                + " | 1y3+1y2+3y1 1x1y1+1x2+1x1+4y1+3 1x4+4x3+1x2+4x1");
        Check.due("25: x^2 + xy + .. counts once", fan.universalSize(), 3);
        fan = Fans.of(11, 1, 10, 1, 3, 0, 3, 1, 6, 2, 4);
        Check.due("15 to 27: the last mirrors the last", cones(fan),
                "1/2 2 -5, 1/1 2 -5, -5/-5 -5 2");
        Check.due("28: degree 2", fan.flattestCone(), 1);
        GroebnerFan column = Fans.of(7, 3, 0, 3, 1, 3, 2, 3, 3);
        Check.due("26: y^4 in a column", column.universalDegree(), 4);
    }

    /** Every question that needs the fan, asked first. */
    private static void askedFirst() {
        Check.due("16: asked first", parabola().wallNumerator(0), 1);
        Check.due("17: asked first", parabola().wallDenominator(0), 2);
        Check.due("18: asked first", parabola().firstConeContaining(0, 1), 2);
        Check.due("19: asked first", parabola().conesContaining(2, 1), 2);
        Check.due("20: asked first", parabola().coneHeight(2, 2), 1);
        Check.due("21: asked first", parabola().basisSize(1), 3);
        Check.due("22: asked first", parabola().basisCorner(1, 1), 11);
        Check.due("23: asked first", parabola().basisCoefficient(1, 1, 1, 0), 4);
        Check.due("24: asked first", parabola().changedCorners(1), 3);
        Check.due("25: asked first", parabola().universalSize(), 7);
        Check.due("26: asked first", parabola().universalDegree(), 3);
        Check.due("27: asked first", parabola().mirroredCone(0), 2);
        Check.due("28: asked first", parabola().flattestCone(), 1);
        Check.due("34: asked first", parabola().reduceToNormalForm(2), 0);
        Check.due("36: asked first", parabola().loadBasisPolynomial(2, 1), 3);
        Check.due("40: asked first", parabola().format(2, 1), 11);
        GroebnerFan fan = parabola();
        fan.newArray(0, 3);
        Check.due("35: asked first", fan.interpolate(2, 0), 0);
        fan = parabola();
        fan.newArray(0, 0);
        Check.due("48: asked first", fan.firstDifference(0, 2), NONE);
    }

    private static void questionsChangeNothing() {
        GroebnerFan fan = parabola();
        fan.setCoefficient(2, 2, 5);
        fan.appendInput('1');
        fan.newArray(2, 3);
        fan.format(0, 0);
        String before = Fans.state(fan);
        for (int cone = -1; cone < 4; cone++) {
            fan.wallNumerator(cone);
            fan.wallDenominator(cone);
            fan.coneHeight(cone, 1);
            fan.basisSize(cone);
            fan.basisCorner(cone, 0);
            fan.basisCoefficient(cone, 0, 1, 1);
            fan.changedCorners(cone);
            fan.mirroredCone(cone);
        }
        fan.columnHeight(3, 1, 0, 0);
        fan.cornerCount(3, 1, 1);
        fan.corner(3, 1, 1, 0);
        fan.universalSize();
        fan.universalDegree();
        fan.flattestCone();
        fan.firstConeContaining(1, 1);
        fan.conesContaining(1, 1);
        Check.due("12 to 28: questions change nothing", Fans.state(fan), before);
        Check.due("15: the fan stays", bases(fan), bases(parabola()));
    }

    public static void main(String[] args) {
        conesAndWalls();
        lowestTerms();
        containing();
        coneHeight();
        basis();
        basisCoefficient();
        changedCorners();
        universal();
        mirroredCone();
        flattestCone();
        scatteredPoints();
        askedFirst();
        questionsChangeNothing();
        Check.finish("FanTest");
    }
}
