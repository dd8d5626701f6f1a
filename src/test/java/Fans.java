/** What several test programs need: objects made ready, and texts in and out. */
final class Fans {
    private Fans() {
    }

    /** An object with the prime p and the points (x0, y0), (x1, y1), .. */
    static GroebnerFan of(int p, int... coordinates) {
        GroebnerFan fan = new GroebnerFan();
        fan.setPrime(p);
        for (int k = 0; k + 1 < coordinates.length; k += 2) {
            fan.addPoint(coordinates[k], coordinates[k + 1]);
        }
        return fan;
    }

    /** The points as text: "x,y x,y". */
    static String points(GroebnerFan fan) {
        StringBuilder text = new StringBuilder();
        for (int k = 0; k < fan.pointCount(); k++) {
            text.append(k == 0 ? "" : " ").append(fan.pointX(k)).append(',').append(fan.pointY(k));
        }
        return text.toString();
    }

    /** The current polynomial as text: "cxiyj" for each term, by rising exponents. */
    static String polynomial(GroebnerFan fan) {
        StringBuilder text = new StringBuilder();
        for (int i = 0; i <= 8; i++) {
            for (int j = 0; j <= 8; j++) {
                int c = fan.coefficient(i, j);
                if (c != 0) {
                    text.append(text.length() == 0 ? "" : " ").append(c);
                    text.append('x').append(i).append('y').append(j);
                }
            }
        }
        return text.toString();
    }

    static void appendAll(GroebnerFan fan, String text) {
        for (int k = 0; k < text.length(); k++) {
            fan.appendInput(text.charAt(k));
        }
    }

    static int parse(GroebnerFan fan, String text) {
        appendAll(fan, text);
        return fan.parsePoints();
    }

    static String output(GroebnerFan fan) {
        StringBuilder text = new StringBuilder();
        for (int k = 0; fan.outputByte(k) >= 0; k++) {
            text.append((char) fan.outputByte(k));
        }
        return text.toString();
    }

    static String format(GroebnerFan fan, int cone, int index) {
        int length = fan.format(cone, index);
        String text = output(fan);
        return text.length() == length ? text : "length " + length + " but " + text;
    }

    /** The heights of all columns of a cone, as nine digits. */
    static String heights(GroebnerFan fan, int cone) {
        StringBuilder text = new StringBuilder();
        for (int i = 0; i <= 8; i++) {
            text.append(fan.coneHeight(cone, i));
        }
        return text.toString();
    }

    /** The heights of all columns for an order, as nine digits. */
    static String heights(GroebnerFan fan, int u, int v, int tie) {
        StringBuilder text = new StringBuilder();
        for (int i = 0; i <= 8; i++) {
            text.append(fan.columnHeight(u, v, tie, i));
        }
        return text.toString();
    }

    /** All that questions without side effects tell of an object, as one text. */
    static String state(GroebnerFan fan) {
        StringBuilder text = new StringBuilder();
        text.append(fan.prime()).append('|').append(points(fan)).append('|').append(polynomial(fan));
        text.append('|').append(fan.inputLength()).append('|').append(output(fan));
        for (int slot = 0; slot < 4; slot++) {
            text.append('|');
            int first = fan.element(slot, 0);
            if (first == GroebnerFan.EMPTY_SLOT || first == GroebnerFan.WRONG_TYPE) {
                text.append(first);
            }
            for (int k = 0; fan.element(slot, k) >= 0; k++) {
                text.append(' ').append(fan.element(slot, k));
            }
        }
        text.append('|').append(fan.coneCount()).append(' ').append(fan.wallNumerator(0));
        return text.toString();
    }
}
