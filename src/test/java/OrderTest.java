/** Promises 12 to 14: standard monomials and corners for one order. */
public final class OrderTest {
    private static final int BAD = GroebnerFan.BAD_VALUE;
    private static final int NO = GroebnerFan.NO_SUCH_INDEX;

    private OrderTest() {
    }

    /** Points with x = y^2, whose ideal is worked out by hand in FanTest. */
    private static GroebnerFan parabola() {
        return Fans.of(7, 0, 0, 1, 1, 4, 2);
    }

    private static String corners(GroebnerFan fan, int u, int v, int tie) {
        StringBuilder text = new StringBuilder();
        for (int k = 0; fan.corner(u, v, tie, k) >= 0; k++) {
            text.append(k == 0 ? "" : " ").append(fan.corner(u, v, tie, k));
        }
        int count = fan.cornerCount(u, v, tie);
        return count == text.toString().split(" ").length ? text.toString() : "count " + count;
    }

    private static void ordinary() {
        GroebnerFan fan = parabola();
        Check.due("12: weight (1, 0)", Fans.heights(fan, 1, 0, 1), "300000000");
        Check.due("14: weight (1, 0)", corners(fan, 1, 0, 1), "3 10");
        Check.due("12: weight (0, 1)", Fans.heights(fan, 0, 1, 1), "111000000");
        Check.due("14: weight (0, 1)", corners(fan, 0, 1, 1), "1 30");
        Check.due("12: weight (1, 1)", Fans.heights(fan, 1, 1, 0), "210000000");
        Check.due("14: weight (1, 1)", corners(fan, 1, 1, 0), "2 11 20");
        Check.due("13: weight (1, 1)", fan.cornerCount(1, 1, 0), 3);
        Check.due("12: weight (99, 99)", Fans.heights(fan, 99, 99, 1), "210000000");
        Check.due("12: weight (99, 0)", Fans.heights(fan, 99, 0, 0), "300000000");
        Check.due("12: weight (0, 99)", Fans.heights(fan, 0, 99, 0), "111000000");
        Check.due("12: just below 2", Fans.heights(fan, 49, 97, 1), "210000000");
        Check.due("12: just above 2", Fans.heights(fan, 49, 99, 0), "111000000");
    }

    private static void ties() {
        GroebnerFan fan = parabola();
        Check.due("12: x over y^2", Fans.heights(fan, 2, 1, GroebnerFan.TIE_X), "300000000");
        Check.due("12: y^2 over x", Fans.heights(fan, 2, 1, GroebnerFan.TIE_Y), "210000000");
        Check.due("14: x over y^2", corners(fan, 2, 1, GroebnerFan.TIE_X), "3 10");
        Check.due("14: y^2 over x", corners(fan, 2, 1, GroebnerFan.TIE_Y), "2 11 20");
        Check.due("13: x over y^2", fan.cornerCount(2, 1, GroebnerFan.TIE_X), 2);
        Check.due("13: y^2 over x", fan.cornerCount(2, 1, GroebnerFan.TIE_Y), 3);
        Check.due("12: x^2 over y", Fans.heights(fan, 1, 2, GroebnerFan.TIE_X), "210000000");
        Check.due("12: y over x^2", Fans.heights(fan, 1, 2, GroebnerFan.TIE_Y), "111000000");
        GroebnerFan diagonal = Fans.of(7, 0, 0, 1, 1);
        Check.due("14: x over y", corners(diagonal, 1, 1, GroebnerFan.TIE_X), "2 10");
        Check.due("14: y over x", corners(diagonal, 1, 1, GroebnerFan.TIE_Y), "1 20");
        // With a weight of 0, x and x y tie, and so do x and x^2: smaller exponents come first.
        Check.due("14: ties of weight 0", corners(diagonal, 0, 5, GroebnerFan.TIE_X), "1 20");
        Check.due("14: ties of weight 0", corners(diagonal, 5, 0, GroebnerFan.TIE_Y), "2 10");
    }

    private static void edges() {
        GroebnerFan none = new GroebnerFan();
        Check.due("12: without points", Fans.heights(none, 3, 4, 0), "000000000");
        Check.due("13: without points", none.cornerCount(3, 4, 0), 1);
        Check.due("14: without points", none.corner(3, 4, 0, 0), 0);
        Check.due("14: without points", none.corner(3, 4, 0, 1), NO);
        GroebnerFan column = Fans.of(31, 5, 0, 5, 1, 5, 2, 5, 3, 5, 4, 5, 5, 5, 6, 5, 30);
        Check.due("12: eight in a column", Fans.heights(column, 1, 9, 0), "800000000");
        Check.due("14: eight in a column", corners(column, 1, 9, 0), "8 10");
        column.swapCoordinates();
        Check.due("12: eight in a row", Fans.heights(column, 9, 1, 1), "111111110");
        Check.due("14: eight in a row", corners(column, 9, 1, 1), "1 80");
        GroebnerFan square = Fans.of(2, 0, 0, 0, 1, 1, 0, 1, 1);
        Check.due("12: all points for p = 2", Fans.heights(square, 7, 5, 0), "220000000");
        Check.due("14: all points for p = 2", corners(square, 7, 5, 0), "2 20");
        GroebnerFan six = Fans.of(31, 0, 0, 0, 1, 0, 2, 1, 0, 1, 1, 2, 0);
        Check.due("14: four corners", corners(six, 1, 1, 0), "3 12 21 30");
    }

    private static void errors() {
        GroebnerFan fan = parabola();
        int[][] badOrders = {
            {-1, 1, 0}, {1, -1, 0}, {100, 1, 0}, {1, 100, 0}, {0, 0, 0}, {0, 0, 1}, {1, 1, -1},
            {1, 1, 2}, {Integer.MAX_VALUE, 1, 1}, {1, Integer.MIN_VALUE, 1},
            {1, 1, Integer.MAX_VALUE}, {-1, 2, 0}, {-5, 5, 0}
        };
        for (int[] bad : badOrders) {
            String order = "(" + bad[0] + ", " + bad[1] + ", " + bad[2] + ")";
            Check.due("12: " + order, fan.columnHeight(bad[0], bad[1], bad[2], 0), BAD);
            Check.due("12: " + order, fan.columnHeight(bad[0], bad[1], bad[2], 9), NO);
            Check.due("12: " + order, fan.columnHeight(bad[0], bad[1], bad[2], -1), NO);
            Check.due("13: " + order, fan.cornerCount(bad[0], bad[1], bad[2]), BAD);
            Check.due("14: " + order, fan.corner(bad[0], bad[1], bad[2], 0), BAD);
            Check.due("14: " + order, fan.corner(bad[0], bad[1], bad[2], 99), BAD);
            Check.due("14: " + order, fan.corner(bad[0], bad[1], bad[2], -1), BAD);
        }
        Check.due("12: column 8", fan.columnHeight(1, 1, 0, 8), 0);
        for (int index : new int[] {-1, 9, Integer.MAX_VALUE, Integer.MIN_VALUE}) {
            Check.due("12: column " + index, fan.columnHeight(1, 1, 0, index), NO);
            Check.due("14: index " + index, fan.corner(1, 1, 0, index), NO);
        }
        Check.due("14: behind the last", fan.corner(1, 1, 0, 3), NO);
        Check.due("14: the last", fan.corner(1, 1, 0, 2), 20);
    }

    private static void cacheIsFresh() {
        GroebnerFan fan = parabola();
        Check.due("12: fan first", fan.coneCount(), 3);
        Check.due("12: then an order", fan.columnHeight(0, 1, 1, 2), 1);
        Check.due("12: then the fan", Fans.heights(fan, 0), "300000000");
        fan.addPoint(0, 3);
        Check.due("12: another point", Fans.heights(fan, 1, 0, 1), "400000000");
        Check.due("12: a question changes no points", fan.pointCount(), 4);
    }

    public static void main(String[] args) {
        ordinary();
        ties();
        edges();
        errors();
        cacheIsFresh();
        Check.finish("OrderTest");
    }
}
