/** Promises 37 to 41: input, lists of points, output. */
public final class TextTest {
    private static final int NO = GroebnerFan.NO_SUCH_INDEX;

    private TextTest() {
    }

    private static void appendInput() {
        GroebnerFan fan = new GroebnerFan();
        Check.due("38: empty at first", fan.inputLength(), 0);
        Check.due("37: the least byte", fan.appendInput(1), 1);
        Check.due("37: the greatest byte", fan.appendInput(127), 2);
        for (int bad : new int[] {0, 128, -1, 256, 305, Integer.MAX_VALUE, Integer.MIN_VALUE}) {
            Check.due("37: byte " + bad, fan.appendInput(bad), GroebnerFan.BAD_VALUE);
        }
        Check.due("38: refusals append nothing", fan.inputLength(), 2);
        for (int k = 3; k <= 60; k++) {
            Check.due("37: byte " + k, fan.appendInput('0'), k);
            Check.due("38: byte " + k, fan.inputLength(), k);
        }
        Check.due("37: no room", fan.appendInput('0'), GroebnerFan.FULL);
        Check.due("37: range ahead of room", fan.appendInput(0), GroebnerFan.BAD_VALUE);
        Check.due("38: full", fan.inputLength(), 60);
        Check.due("39: what was appended", fan.parsePoints(), -100);
        Check.due("37: room again", fan.appendInput('0'), 1);
    }

    private static void parseErrors() {
        String[] texts = {
            "", "1", "12", "1,", "1,2;", "12,34;5", "12,34;5,", ",", ";", "x", " 1,2", "1 ,2",
            "1, 2", "1,2 ", "123", "123,1", "1,234", "001,1", "1,,2", "1,2,3", "1;2", "1,2;;3,4",
            "1,2;x", "1,2;3;4", "-1,2", "1,-2", "1,2;3,4;", "1,2;3,4x", "1,2;3,45;6,789", "1.2",
            "1,2\n", "/,1", ":,1", "1,/", "1,:"
        };
        int[] positions = {
            0, 1, 2, 2, 4, 7, 8, 0, 0, 0, 0, 1,
            2, 3, 2, 2, 4, 2, 2, 3, 1, 4,
            4, 5, 0, 2, 8, 7, 13, 1,
            3, 0, 0, 2, 2
        };
        for (int k = 0; k < texts.length; k++) {
            GroebnerFan fan = Fans.of(31, 9, 9);
            Check.due("39: \"" + texts[k] + "\"", Fans.parse(fan, texts[k]),
                    GroebnerFan.SYNTAX_ERROR - positions[k]);
            Check.due("39: no point of \"" + texts[k] + "\"", Fans.points(fan), "9,9");
            Check.due("39: clears \"" + texts[k] + "\"", fan.inputLength(), 0);
        }
        GroebnerFan full = Fans.of(31);
        StringBuilder text = new StringBuilder();
        for (int k = 0; k < 15; k++) {
            text.append("1,").append(k % 10).append(';');
        }
        Check.due("39: sixty bytes with a ';' at the end", Fans.parse(full, text.toString()), -160);
        Check.due("39: sixty bytes with a ';' at the end", full.pointCount(), 0);
    }

    private static void parsePoints() {
        GroebnerFan fan = Fans.of(31);
        Check.due("39: one point", Fans.parse(fan, "1,2"), 1);
        Check.due("38: cleared", fan.inputLength(), 0);
        Check.due("39: two digits", Fans.parse(fan, "30,29;05,00"), 2);
        Check.due("39: in order", Fans.points(fan), "1,2 30,29 5,0");
        Check.due("39: a leading 0 is no other point", Fans.parse(fan, "01,02"), 0);
        Check.due("39: out of range is passed over", Fans.parse(fan, "31,0;0,31;99,99;3,3"), 1);
        Check.due("39: twice in a text", Fans.parse(fan, "4,4;4,4;4,04"), 1);
        Check.due("39: with points", Fans.points(fan), "1,2 30,29 5,0 3,3 4,4");
        Check.due("39: until there are 8", Fans.parse(fan, "6,1;6,2;6,3;6,4;1,2"), 3);
        Check.due("39: with 8", Fans.points(fan), "1,2 30,29 5,0 3,3 4,4 6,1 6,2 6,3");
        Check.due("39: no room", Fans.parse(fan, "7,7"), 0);
        Check.due("39: an error with 8", Fans.parse(fan, "7,7;"), -104);
        GroebnerFan small = Fans.of(7);
        Check.due("39: fifteen points", Fans.parse(small,
                "0,0;0,0;0,0;0,0;0,0;0,0;0,0;0,0;0,0;0,0;0,0;0,0;0,0;0,0;6,6"), 2);
        Check.due("39: fifteen points", Fans.points(small), "0,0 6,6");
        Check.due("39: an empty input", small.parsePoints(), -100);
        Check.due("39: fan before", small.coneCount(), 2);
        small.setCoefficient(1, 1, 1);
        Check.due("39: the fan follows", Fans.parse(small, "0,6"), 1);
        Check.due("39: the fan follows", Fans.heights(small, 0), "210000000");
        Check.due("39: the polynomial stays", Fans.polynomial(small), "1x1y1");
    }

    private static void format() {
        GroebnerFan fan = Fans.of(7, 0, 0, 1, 1, 4, 2);
        String[][] texts = {
            {"1y3+4y2+2y1", "1x1+6y2"},
            {"1y2+6x1", "1x1y1+4x1+2y1", "1x2+6y1"},
            {"1y1+6x2", "1x3+2x2+4x1"}
        };
        for (int cone = 0; cone < 3; cone++) {
            for (int k = 0; k < texts[cone].length; k++) {
                Check.due("40: " + cone + ", " + k, fan.format(cone, k), texts[cone][k].length());
                Check.due("41: " + cone + ", " + k, Fans.output(fan), texts[cone][k]);
            }
        }
        String last = texts[2][1];
        for (int bad : new int[] {-1, 3, Integer.MAX_VALUE, Integer.MIN_VALUE}) {
            Check.due("40: cone " + bad, fan.format(bad, 0), NO);
            Check.due("40: index " + bad, fan.format(0, bad), NO);
        }
        Check.due("40: index 2 of cone 0", fan.format(0, 2), NO);
        Check.due("40: refusals change nothing", Fans.output(fan), last);
        fan.setPrime(7);
        Check.due("40: the output stays", Fans.output(fan), last);
        Check.due("40: without points", fan.format(0, 0), 1);
        Check.due("40: without points", Fans.output(fan), "1");
        // x = 3 and y = 4 over GF(31)
        GroebnerFan one = Fans.of(31, 3, 4);
        Check.due("40: two digits", Fans.format(one, 0, 0), "1y1+27");
        Check.due("40: two digits", Fans.format(one, 0, 1), "1x1+28");
        // x^2 + 1 y^2 - 1 over GF(5): the corner leads, then x^2 falls to 1.
        GroebnerFan circle = Fans.of(5, 0, 1, 0, 4, 1, 0, 4, 0);
        Check.due("40: y^2 as corner ahead of x^2", Fans.format(circle, 1, 0), "1y2+1x2+4");
        Check.due("40: x^2 as corner", Fans.format(circle, 0, 2), "1x2+1y2+4");
    }

    /** x = y^7 + .. + y + 1 at eight values of y, so every standard monomial has a term. */
    private static void longOutput() {
        GroebnerFan fan = Fans.of(31);
        for (int y = 0; y < 8; y++) {
            int x = 0;
            for (int k = 0; k < 8; k++) {
                x = (x * y + 12) % 31;
            }
            fan.addPoint(x, y);
        }
        String due = "1x1+19y7+19y6+19y5+19y4+19y3+19y2+19y1+19";
        Check.due("40: the most terms", Fans.format(fan, 0, 1), due);
        Check.due("41: the last byte", fan.outputByte(due.length() - 1), '9');
        Check.due("41: behind it", fan.outputByte(due.length()), NO);
    }

    private static void outputByte() {
        GroebnerFan fan = Fans.of(7, 0, 0, 1, 1, 4, 2);
        Check.due("41: empty at first", fan.outputByte(0), NO);
        Check.due("40: x + 6 y^2", fan.format(0, 1), 7);
        int[] due = {'1', 'x', '1', '+', '6', 'y', '2'};
        for (int k = 0; k < due.length; k++) {
            Check.due("41: byte " + k, fan.outputByte(k), due[k]);
        }
        for (int bad : new int[] {-1, 7, 60, Integer.MAX_VALUE, Integer.MIN_VALUE}) {
            Check.due("41: byte " + bad, fan.outputByte(bad), NO);
        }
        fan.setPrime(5);
        fan.format(0, 0);
        Check.due("41: a shorter output", fan.outputByte(1), NO);
    }

    public static void main(String[] args) {
        appendInput();
        parseErrors();
        parsePoints();
        format();
        longOutput();
        outputByte();
        Check.finish("TextTest");
    }
}
