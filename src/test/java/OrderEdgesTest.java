/** Promises 12 to 14: the sentences of the document that name a boundary case, each by itself. */
public final class OrderEdgesTest {
    private static final int NO = GroebnerFan.NO_SUCH_INDEX;
    private static final int BAD = GroebnerFan.BAD_VALUE;
    private static final int X = GroebnerFan.TIE_X;
    private static final int Y = GroebnerFan.TIE_Y;
    private static final int LEAST = Integer.MIN_VALUE;
    private static final int GREATEST = Integer.MAX_VALUE;
    private static final int[][] ORDERS = {
        {0, 1, X}, {0, 1, Y}, {1, 0, X}, {1, 0, Y}, {0, 99, X}, {0, 99, Y}, {99, 0, X}, {99, 0, Y},
        {1, 1, X}, {1, 1, Y}, {99, 99, X}, {99, 99, Y}, {98, 99, X}, {99, 98, Y}, {1, 99, Y}, {99, 1, X}
    };

    private OrderEdgesTest() {
    }

    private static GroebnerFan column() {
        return Fans.of(31, 5, 0, 5, 1, 5, 2, 5, 3, 5, 4, 5, 5, 5, 6, 5, 30);
    }

    private static GroebnerFan row() {
        return Fans.of(31, 0, 5, 1, 5, 2, 5, 3, 5, 4, 5, 5, 5, 6, 5, 30, 5);
    }

    /** Points in the form of columns of 4, 3 and 1: for every order the same are standard. */
    private static GroebnerFan stairs() {
        return Fans.of(31, 0, 0, 0, 1, 0, 2, 0, 3, 1, 0, 1, 1, 1, 2, 2, 0);
    }

    /** The first n of eight points that lie on no line and no conic. */
    private static GroebnerFan scattered(int n) {
        GroebnerFan fan = Fans.of(31, 0, 0, 1, 2, 2, 1, 3, 3, 30, 4, 5, 30, 6, 11, 7, 7);
        for (int k = 7; k >= n; k--) {
            fan.removePoint(k);
        }
        return fan;
    }

    private static String heights(GroebnerFan fan, int[] order) {
        return Fans.heights(fan, order[0], order[1], order[2]);
    }

    private static String corners(GroebnerFan fan, int[] order) {
        StringBuilder text = new StringBuilder();
        int count = fan.cornerCount(order[0], order[1], order[2]);
        for (int k = 0; k < count; k++) {
            text.append(k == 0 ? "" : " ").append(fan.corner(order[0], order[1], order[2], k));
        }
        Check.due("behind the last corner", fan.corner(order[0], order[1], order[2], count), NO);
        Check.due("ahead of the first corner", fan.corner(order[0], order[1], order[2], -1), NO);
        return text.toString();
    }

    private static void weights() {
        GroebnerFan fan = scattered(3);
        Check.about("The weights u and v are integers from 0 to 99, and they are not both 0.");
        int[][] taken = {{0, 1}, {1, 0}, {99, 0}, {0, 99}, {99, 99}};
        int[][] refused = {
            {0, 0}, {-1, 0}, {0, -1}, {-1, 1}, {1, -1}, {-1, -1}, {100, 0}, {0, 100}, {100, 99},
            {99, 100}, {LEAST, 1}, {1, LEAST}, {GREATEST, 1}, {1, GREATEST}
        };
        for (int tie = X; tie <= Y; tie++) {
            for (int[] w : taken) {
                String order = w[0] + ", " + w[1] + ", " + tie;
                Check.due("columnHeight of " + order, fan.columnHeight(w[0], w[1], tie, 8), 0);
                Check.due("cornerCount of " + order + " is no error",
                        fan.cornerCount(w[0], w[1], tie) > 0 ? 1 : 0, 1);
                Check.due("corner of " + order + " is no error",
                        fan.corner(w[0], w[1], tie, 0) > 0 ? 1 : 0, 1);
            }
            for (int[] w : refused) {
                String order = w[0] + ", " + w[1] + ", " + tie;
                Check.due("columnHeight of " + order, fan.columnHeight(w[0], w[1], tie, 0), BAD);
                Check.due("cornerCount of " + order, fan.cornerCount(w[0], w[1], tie), BAD);
                Check.due("corner of " + order, fan.corner(w[0], w[1], tie, 0), BAD);
            }
        }
        Check.about("`tie`: TIE_X or TIE_Y");
        for (int tie : new int[] {-1, 2, LEAST, GREATEST}) {
            Check.due("columnHeight with " + tie, fan.columnHeight(1, 1, tie, 0), BAD);
            Check.due("cornerCount with " + tie, fan.cornerCount(1, 1, tie), BAD);
            Check.due("corner with " + tie, fan.corner(1, 1, tie, 0), BAD);
        }
    }

    private static void ties() {
        GroebnerFan diagonal = Fans.of(31, 0, 0, 30, 30);
        Check.about("With TIE_X the monomial with the greater x exponent is greater, and if the x"
                + " exponents are equal, too, the one with the greater y exponent.");
        Check.due("x over y", corners(diagonal, new int[] {99, 99, X}), "2 10");
        Check.due("y over 1 where x alone weighs", heights(column(), new int[] {1, 0, X}), "800000000");
        Check.due("x over 1 where y alone weighs", heights(row(), new int[] {0, 1, X}), "111111110");
        Check.about("With TIE_Y the monomial with the greater y exponent is greater, and if the y"
                + " exponents are equal, too, the one with the greater x exponent.");
        Check.due("y over x", corners(diagonal, new int[] {99, 99, Y}), "1 20");
        Check.due("x over 1 where y alone weighs", heights(row(), new int[] {0, 1, Y}), "111111110");
        Check.due("y over 1 where x alone weighs", heights(column(), new int[] {1, 0, Y}), "800000000");
        Check.about("If these numbers are equal, the tie rule decides.");
        Check.due("x over y, by weight", corners(diagonal, new int[] {99, 98, Y}), "2 10");
        Check.due("y over x, by weight", corners(diagonal, new int[] {98, 99, X}), "1 20");
        // x = y^7 is on the wall of the weight (7, 1), and beside it of (99, 14) and (99, 15).
        GroebnerFan seventh = Fans.of(31);
        for (int y = 0; y < 8; y++) {
            seventh.addPoint(y * y * y % 31 * y * y % 31 * y * y % 31, y);
        }
        Check.due("x over y^7, by tie", corners(seventh, new int[] {7, 1, X}), "8 10");
        Check.due("y^7 over x, by tie", corners(seventh, new int[] {7, 1, Y}), "7 11 20");
        Check.due("x over y^7, by weight", corners(seventh, new int[] {99, 14, Y}), "8 10");
        Check.due("y^7 over x, by weight", corners(seventh, new int[] {99, 15, X}), "7 11 20");
    }

    private static void standardMonomials() {
        for (int n = 0; n <= 8; n++) {
            GroebnerFan fan = scattered(n);
            for (int[] order : ORDERS) {
                String text = heights(fan, order);
                int sum = 0;
                int falls = 1;
                for (int k = 0; k < 9; k++) {
                    sum += text.charAt(k) - '0';
                    falls = k > 0 && text.charAt(k) > text.charAt(k - 1) ? 0 : falls;
                }
                Check.about("There are exactly as many standard monomials as points,");
                Check.due(n + " points, " + text, sum, n);
                Check.about("every divisor of a standard monomial is standard,");
                Check.due(n + " points, " + text, falls, 1);
            }
        }
        Check.about("all exponents of standard monomials are at most 7.");
        for (int[] order : ORDERS) {
            Check.due("eight in a row", heights(row(), order), "111111110");
            Check.due("eight in a column", heights(column(), order), "800000000");
        }
        Check.about("A linear combination of no vectors is the zero vector.");
        // The value of 1 is 1 at a point, and without points there is no value that is not 0.
        Check.due("one point", Fans.heights(Fans.of(7, 0, 0), 1, 1, X), "100000000");
        Check.due("no points", Fans.heights(Fans.of(7), 1, 1, X), "000000000");
    }

    private static void withoutPoints() {
        Check.about("Without points no monomial is standard, the only corner is the monomial 1, and the"
                + " reduced basis is the constant polynomial 1.");
        GroebnerFan fan = new GroebnerFan();
        for (int round = 0; round < 2; round++) {
            for (int[] order : ORDERS) {
                Check.due("heights", heights(fan, order), "000000000");
                Check.due("corners", corners(fan, order), "0");
            }
            Check.due("basisSize(0)", fan.basisSize(0), 1);
            Check.due("basisCorner(0, 0)", fan.basisCorner(0, 0), 0);
            Check.due("format(0, 0)", Fans.format(fan, 0, 0), "1");
            // Without points again
            fan.addPoint(6, 6);
            fan.columnHeight(1, 1, X, 0);
            fan.coneCount();
            fan.removePoint(0);
        }
    }

    private static void columnHeight() {
        Check.about("Returns the height, 0 to 8; NO_SUCH_INDEX if column is out of range; BAD_VALUE if"
                + " u, v or tie is not valid.");
        Check.due("height 8", column().columnHeight(3, 4, X, 0), 8);
        Check.due("height 0", column().columnHeight(3, 4, X, 1), 0);
        Check.due("column 7 of eight in a row", row().columnHeight(3, 4, X, 7), 1);
        Check.due("column 8 of eight in a row", row().columnHeight(3, 4, X, 8), 0);
        for (int column : new int[] {-1, 9, LEAST, GREATEST}) {
            Check.due("column " + column, row().columnHeight(3, 4, X, column), NO);
            Check.due("column " + column + " without points",
                    new GroebnerFan().columnHeight(3, 4, X, column), NO);
        }
        Check.about("A column that does not exist is reported ahead of weights that are no order.");
        Check.due("column -1 of (0, 0)", row().columnHeight(0, 0, X, -1), NO);
        Check.due("column 9 of (100, 1)", row().columnHeight(100, 1, X, 9), NO);
        Check.due("column 9 and tie 2", row().columnHeight(1, 1, 2, 9), NO);
        Check.due("column 8 of (0, 0)", row().columnHeight(0, 0, X, 8), BAD);
        Check.due("column 0 and tie 2", row().columnHeight(1, 1, 2, 0), BAD);
    }

    private static void corners() {
        Check.about("Corners are listed by increasing x exponent.");
        for (int[] order : ORDERS) {
            Check.due("four corners", corners(stairs(), order), "4 13 21 30");
            Check.due("eight in a row", corners(row(), order), "1 80");
            Check.due("eight in a column", corners(column(), order), "8 10");
            Check.due("one point", corners(Fans.of(31, 30, 30), order), "1 10");
            Check.due("all points of GF(2)",
                    corners(Fans.of(2, 1, 1, 1, 0, 0, 1, 0, 0), order), "2 20");
        }
        Check.about("Returns the number of corners; BAD_VALUE if u, v or tie is not valid.");
        Check.due("the fewest", new GroebnerFan().cornerCount(1, 0, Y), 1);
        Check.due("the most", stairs().cornerCount(1, 0, Y), 4);
        Check.about("Returns 10 times the x exponent plus the y exponent; BAD_VALUE if u, v or tie is"
                + " not valid; NO_SUCH_INDEX if there is no such corner.");
        Check.due("x^8", row().corner(1, 0, Y, 1), 80);
        Check.due("y^8", column().corner(1, 0, Y, 0), 8);
        Check.due("the last of four", stairs().corner(1, 0, Y, 3), 30);
        Check.due("behind the last of four", stairs().corner(1, 0, Y, 4), NO);
        Check.due("behind the only one", new GroebnerFan().corner(1, 0, Y, 1), NO);
        Check.due("no order ahead of no corner", stairs().corner(0, 0, Y, 4), BAD);
        Check.due("no tie ahead of no corner", stairs().corner(1, 1, -1, -1), BAD);
        Check.due("the least index", stairs().corner(1, 1, X, LEAST), NO);
        Check.due("the greatest index", stairs().corner(1, 1, X, GREATEST), NO);
    }

    public static void main(String[] args) {
        weights();
        ties();
        standardMonomials();
        withoutPoints();
        columnHeight();
        corners();
        Check.finish("OrderEdgesTest");
    }
}
