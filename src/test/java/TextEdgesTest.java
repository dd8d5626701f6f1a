/** Promises 37 to 41: the sentences of the document that name a boundary case, each by itself. */
public final class TextEdgesTest {
    private static final int NO = GroebnerFan.NO_SUCH_INDEX;
    private static final int BAD = GroebnerFan.BAD_VALUE;
    private static final int FULL = GroebnerFan.FULL;
    private static final int ERROR = GroebnerFan.SYNTAX_ERROR;
    private static final int LEAST = Integer.MIN_VALUE;
    private static final int GREATEST = Integer.MAX_VALUE;
    /** Fifteen points in sixty bytes. */
    private static final String SIXTY = "20,0;9,1;9,2;9,3;9,4;9,5;9,6;9,7;9,8;9,9;8,0;8,1;8,2;8,3;8,4";

    private TextEdgesTest() {
    }

    private static String times(int count, String part) {
        StringBuilder text = new StringBuilder();
        for (int k = 0; k < count; k++) {
            text.append(part);
        }
        return text.toString();
    }

    private static void appendInput() {
        Check.about("The input is empty at first.");
        GroebnerFan fan = new GroebnerFan();
        Check.due("inputLength()", fan.inputLength(), 0);
        Check.due("parsePoints()", fan.parsePoints(), ERROR);
        Check.about("the byte, 1 to 127");
        Check.due("1", fan.appendInput(1), 1);
        Check.due("127", fan.appendInput(127), 2);
        for (int bad : new int[] {0, 128, -1, 129, 255, 256, 257, LEAST, GREATEST}) {
            Check.due("" + bad, fan.appendInput(bad), BAD);
        }
        Check.due("refusals append nothing", fan.inputLength(), 2);
        Check.about("Returns the new length of the input; BAD_VALUE if b is out of range; FULL if the"
                + " input has 60 bytes.");
        Fans.appendAll(fan, times(57, "x"));
        Check.due("the sixtieth", fan.appendInput('x'), 60);
        Check.due("a byte more", fan.appendInput('x'), FULL);
        Check.due("a byte out of range first", fan.appendInput(0), BAD);
        Check.due("a byte out of range first", fan.appendInput(128), BAD);
        Check.about("Returns the number of bytes, 0 to 60.");
        Check.due("full", fan.inputLength(), 60);
        Check.due("the first byte is the error", fan.parsePoints(), ERROR);
        Check.due("empty again", fan.inputLength(), 0);
        Check.due("room again", fan.appendInput('x'), 1);
        Check.due("room again", fan.inputLength(), 1);
    }

    /** What is due for a list that has begun well and goes on with each of the 127 bytes. */
    private static void eachByteBehind(String begun, String good, int ifGood, int ifNot) {
        for (int b = 1; b <= 127; b++) {
            GroebnerFan fan = Fans.of(31);
            Fans.appendAll(fan, begun);
            fan.appendInput(b);
            int due = good.indexOf(b) >= 0 ? ifGood : ifNot;
            Check.due("byte " + b + " behind \"" + begun + "\"", fan.parsePoints(), due);
            Check.due("the input after it", fan.inputLength(), 0);
        }
    }

    private static void syntaxErrors() {
        String digits = "0123456789";
        Check.about("The position of the syntax error is the length of the longest prefix of the input"
                + " that can be continued to a correct list.");
        eachByteBehind("", digits, ERROR - 1, ERROR);
        eachByteBehind("1", digits + ",", ERROR - 2, ERROR - 1);
        eachByteBehind("12", ",", ERROR - 3, ERROR - 2);
        eachByteBehind("12,", digits, 1, ERROR - 3);
        eachByteBehind("1,2;", digits, ERROR - 5, ERROR - 4);
        eachByteBehind("1,2;3", digits + ",", ERROR - 6, ERROR - 5);
        // Behind a whole point a digit makes another whole point, and ';' waits for the next.
        for (int b = 1; b <= 127; b++) {
            GroebnerFan fan = Fans.of(31);
            Fans.appendAll(fan, "1,2");
            fan.appendInput(b);
            boolean isDigit = digits.indexOf(b) >= 0;
            Check.due("byte " + b + " behind \"1,2\"", fan.parsePoints(),
                    isDigit ? 1 : b == ';' ? ERROR - 4 : ERROR - 3);
        }
        Check.due("an empty input", new GroebnerFan().parsePoints(), ERROR);
        Check.due("the error is not the last byte", Fans.parse(Fans.of(31), "1,2;x;3,4"), ERROR - 4);
        Check.due("the first of two errors", Fans.parse(Fans.of(31), "1,,2,,"), ERROR - 2);
        Check.about("Numbers in a text of points can begin with 0, and a third digit is an error at its"
                + " place; points that cannot be added are passed over.");
        Check.due("a third digit of x", Fans.parse(Fans.of(31), "001,2"), ERROR - 2);
        Check.due("a third digit of y", Fans.parse(Fans.of(31), "1,002"), ERROR - 4);
        Check.due("a third digit of the last y", Fans.parse(Fans.of(31), "1,2;03,040"), ERROR - 9);
        GroebnerFan zeros = Fans.of(31);
        Check.due("00 is 0, and 09 is 9", Fans.parse(zeros, "00,09;0,9;00,9;09,00"), 2);
        Check.due("00 is 0, and 09 is 9", Fans.points(zeros), "0,9 9,0");
        GroebnerFan far = Fans.of(31);
        Check.due("30 and 31", Fans.parse(far, "31,0;0,31;99,99;32,32;30,30"), 1);
        Check.due("30 and 31", Fans.points(far), "30,30");
        Check.due("all passed over", Fans.parse(far, "30,30;99,0"), 0);
        GroebnerFan two = Fans.of(2);
        Check.due("1 and 2 over GF(2)", Fans.parse(two, "2,0;0,2;1,1;0,0;01,00"), 3);
        Check.due("1 and 2 over GF(2)", Fans.points(two), "1,1 0,0 1,0");
    }

    private static void fullInput() {
        Check.about("FULL if the input has 60 bytes.");
        GroebnerFan fan = Fans.of(31);
        Fans.appendAll(fan, SIXTY);
        Check.due("sixty bytes", fan.inputLength(), 60);
        Check.due("a byte that is not taken", fan.appendInput(';'), FULL);
        Check.about("appends the points one by one as addPoint does.");
        Check.due("eight of fifteen", fan.parsePoints(), 8);
        Check.due("eight of fifteen", Fans.points(fan), "20,0 9,1 9,2 9,3 9,4 9,5 9,6 9,7");
        Check.due("the input after it", fan.inputLength(), 0);
        Check.due("none of fifteen", Fans.parse(fan, SIXTY), 0);
        fan.removePoint(0);
        // The first that is not in the list
        Check.due("one of fifteen", Fans.parse(fan, SIXTY), 1);
        Check.due("one of fifteen", Fans.points(fan), "9,1 9,2 9,3 9,4 9,5 9,6 9,7 20,0");
        GroebnerFan small = Fans.of(7);
        Check.due("all out of range", Fans.parse(small, SIXTY), 0);
        Check.due("all out of range", small.pointCount(), 0);
        Check.about("that can be continued to a correct list.");
        Check.due("sixty bytes and ';' is the last", Fans.parse(Fans.of(31), times(15, "1,2;")),
                ERROR - 60);
        Check.due("sixty bytes and a number is the last",
                Fans.parse(Fans.of(31), "11,22;" + times(13, "1,2;") + "12"), ERROR - 60);
        Check.due("the sixtieth is wrong",
                Fans.parse(Fans.of(31), "11,2;" + times(13, "1,2;") + "1,x"), ERROR - 59);
        Check.due("a third digit ahead of the sixtieth",
                Fans.parse(Fans.of(31), times(13, "1,2;") + "1,2;" + "1234"), ERROR - 58);
    }

    private static void errorsWhereThereArePoints() {
        Check.about("If the input has a syntax error, no point is appended.");
        GroebnerFan fan = Fans.of(31, 30, 30);
        fan.setCoefficient(8, 8, 30);
        Check.due("good points ahead of the error", Fans.parse(fan, "1,2;3,4;5"), ERROR - 9);
        Check.due("the points", Fans.points(fan), "30,30");
        Check.about("A call that reports an error leaves the state unchanged, except that parsePoints"
                + " always clears the input.");
        Check.due("the polynomial", Fans.polynomial(fan), "30x8y8");
        Check.due("the input", fan.inputLength(), 0);
        Check.due("nothing of it is left", Fans.parse(fan, "7,8"), 1);
        Check.due("the points", Fans.points(fan), "30,30 7,8");
        GroebnerFan full = Fans.of(31);
        Fans.parse(full, SIXTY);
        Check.due("an error with 8 points", Fans.parse(full, "1,2;"), ERROR - 4);
        Check.due("the input of it", full.inputLength(), 0);
        Check.due("still 8", full.pointCount(), 8);
        Check.about("A point that addPoint would reject is skipped.");
        GroebnerFan seven = Fans.of(31, 0, 0, 0, 1, 0, 2, 0, 3, 0, 4, 0, 5, 0, 6);
        Check.due("the eighth is taken, the ninth is not", Fans.parse(seven, "0,0;99,1;0,7;0,8"), 1);
        Check.due("the last place", seven.pointY(7), 7);
        Check.due("8 points", seven.pointCount(), 8);
    }

    private static void format() {
        Check.about("The output is empty at first.");
        GroebnerFan fan = Fans.of(31, 30, 0);
        Check.due("outputByte(0)", fan.outputByte(0), NO);
        Check.about("Returns the new length of the output; NO_SUCH_INDEX if there is no such cone or"
                + " polynomial.");
        Check.due("refused", fan.format(0, 2), NO);
        Check.due("still empty", fan.outputByte(0), NO);
        Check.about("Coefficients 1 and exponents 1 are written.");
        Check.due("y", Fans.format(fan, 0, 0), "1y1");
        Check.due("x + 1", Fans.format(fan, 0, 1), "1x1+1");
        for (int bad : new int[] {-1, 2, 9, LEAST, GREATEST}) {
            Check.due("polynomial " + bad, fan.format(0, bad), NO);
            Check.due("cone " + bad, fan.format(bad, 0), NO);
        }
        Check.due("cone 1", fan.format(1, 0), NO);
        Check.due("the text of the last that was not refused", Fans.output(fan), "1x1+1");
        Check.about("if the x exponent is not 0, the letter x and the x exponent,");
        Check.due("the constant 1", Fans.format(new GroebnerFan(), 0, 0), "1");
        Check.due("behind the constant 1", new GroebnerFan().format(0, 1), NO);
        Check.about("The other terms follow by decreasing x exponent, and for equal x exponents by"
                + " decreasing y exponent.");
        GroebnerFan three = Fans.of(3, 0, 0, 0, 1, 1, 0, 2, 2);
        Check.due("y^2 as corner ahead of x^2", Fans.format(three, 1, 0), "1y2+2x2+1x1+2y1");
        Check.due("xy ahead of x^2", Fans.format(three, 1, 1), "1x1y1+1x2+2x1");
        Check.due("x^2 as corner", Fans.format(three, 0, 2), "1x2+2x1+2y2+1y1");
    }

    /** x = 12 (y^7 + .. + y + 1) at eight values of y: nine terms. */
    private static GroebnerFan nineTerms() {
        GroebnerFan fan = Fans.of(31);
        for (int y = 0; y < 8; y++) {
            int x = 0;
            for (int k = 0; k < 8; k++) {
                x = (x * y + 12) % 31;
            }
            fan.addPoint(x, y);
        }
        return fan;
    }

    private static void outputByte() {
        Check.about("Returns the byte; NO_SUCH_INDEX if the position is not inside the output.");
        GroebnerFan fan = nineTerms();
        String due = "1x1+19y7+19y6+19y5+19y4+19y3+19y2+19y1+19";
        Check.due("nine terms", fan.format(0, 1), due.length());
        Check.due("position -1", fan.outputByte(-1), NO);
        Check.due("the first", fan.outputByte(0), '1');
        Check.due("the second", fan.outputByte(1), 'x');
        Check.due("the last", fan.outputByte(due.length() - 1), '9');
        Check.due("behind the last", fan.outputByte(due.length()), NO);
        Check.due("the least", fan.outputByte(LEAST), NO);
        Check.due("the greatest", fan.outputByte(GREATEST), NO);
        Check.due("all of it", Fans.output(fan), due);
        fan.setPrime(2);
        Check.due("stays without its points", Fans.output(fan), due);
        Check.due("1 in its place", fan.format(0, 0), 1);
        Check.due("the only byte", fan.outputByte(0), '1');
        Check.due("behind it", fan.outputByte(1), NO);
    }

    public static void main(String[] args) {
        appendInput();
        syntaxErrors();
        fullInput();
        errorsWhereThereArePoints();
        format();
        outputByte();
        Check.finish("TextEdgesTest");
    }
}
