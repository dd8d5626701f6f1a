import java.util.Random;

/**
 * Runs of calls with arguments by lot, each answer compared with the model's. The lots are drawn
 * from a fixed start, so every run of this program is the same.
 */
public final class ModelTest {
    private static final int RUNS = 120;
    private static final int CALLS = 512;
    private static final int[] PRIMES = {2, 3, 5, 7, 11, 13, 17, 19, 23, 29, 31};
    private static final int[] FAR = {
        Integer.MIN_VALUE, Integer.MAX_VALUE, -1000000007, 1000000007, -100, 127, 128, 10000, -2
    };

    private final Random lot;
    private final GroebnerFan fan = new GroebnerFan();
    private final Model model = new Model();

    private ModelTest(long start) {
        lot = new Random(start);
    }

    /** A number from low to high; now and then one just outside, and seldom one far off. */
    private int near(int low, int high) {
        int chance = lot.nextInt(40);
        if (chance == 0) {
            return low - 1;
        }
        if (chance == 1) {
            return high + 1;
        }
        if (chance == 2) {
            return lot.nextInt(4) == 0 ? FAR[lot.nextInt(FAR.length)] : low;
        }
        return high < low ? low : low + lot.nextInt(high - low + 1);
    }

    private int slot() {
        return near(0, 3);
    }

    private int cone() {
        return near(0, model.coneCount() - 1);
    }

    private int weight() {
        switch (lot.nextInt(4)) {
            case 0:
                return near(0, 99);
            case 1:
                return near(0, 9);
            default:
                return near(0, 4);
        }
    }

    private void setPrime(int p) {
        Check.due("setPrime(" + p + ")", fan.setPrime(p), model.setPrime(p));
    }

    private void addPoint(int x, int y) {
        Check.due("addPoint(" + x + ", " + y + ")", fan.addPoint(x, y), model.addPoint(x, y));
    }

    private void byteInto(int b) {
        Check.due("appendInput(" + b + ")", fan.appendInput(b), model.appendInput(b));
    }

    private void pointCalls() {
        int p = model.prime();
        switch (lot.nextInt(12)) {
            case 0:
                if (lot.nextInt(4) == 0) {
                    setPrime(lot.nextInt(4) == 0 ? near(0, 40) : PRIMES[lot.nextInt(11)]);
                }
                break;
            case 1:
                int removed = near(0, model.pointCount() - 1);
                Check.due("removePoint", fan.removePoint(removed), model.removePoint(removed));
                break;
            case 2:
                int x = near(0, model.pointCount() - 1);
                Check.due("pointX(" + x + ")", fan.pointX(x), model.pointX(x));
                Check.due("pointY(" + x + ")", fan.pointY(x), model.pointY(x));
                break;
            case 3:
                Check.due("swapCoordinates()", fan.swapCoordinates(), model.swapCoordinates());
                break;
            case 4:
                int dx = near(0, p - 1);
                int dy = near(0, p - 1);
                Check.due("translate", fan.translate(dx, dy), model.translate(dx, dy));
                break;
            case 5:
                int fx = near(1, p - 1);
                int fy = near(1, p - 1);
                Check.due("scale", fan.scale(fx, fy), model.scale(fx, fy));
                break;
            case 6:
                Check.due("prime()", fan.prime(), model.prime());
                Check.due("pointCount()", fan.pointCount(), model.pointCount());
                break;
            case 7:
                int line = near(0, p - 1);
                addPoint(line, line);
                break;
            case 8:
                int root = lot.nextInt(p);
                addPoint(root * root % p, root);
                break;
            default:
                addPoint(near(0, p - 1), near(0, p - 1));
        }
    }

    private void orderCalls() {
        int u = weight();
        int v = weight();
        int tie = near(0, 1);
        int index = near(0, 4);
        String order = u + ", " + v + ", " + tie;
        int column = near(0, 8);
        Check.due("columnHeight(" + order + ", " + column + ")",
                fan.columnHeight(u, v, tie, column), model.columnHeight(u, v, tie, column));
        Check.due("cornerCount(" + order + ")",
                fan.cornerCount(u, v, tie), model.cornerCount(u, v, tie));
        Check.due("corner(" + order + ", " + index + ")",
                fan.corner(u, v, tie, index), model.corner(u, v, tie, index));
    }

    private void fanCalls() {
        int cone = cone();
        int index = near(0, 4);
        int u = weight();
        int v = weight();
        Check.due("coneCount()", fan.coneCount(), model.coneCount());
        Check.due("wallNumerator(" + cone + ")",
                fan.wallNumerator(cone), model.wallNumerator(cone));
        Check.due("wallDenominator(" + cone + ")",
                fan.wallDenominator(cone), model.wallDenominator(cone));
        Check.due("firstConeContaining(" + u + ", " + v + ")",
                fan.firstConeContaining(u, v), model.firstConeContaining(u, v));
        Check.due("conesContaining(" + u + ", " + v + ")",
                fan.conesContaining(u, v), model.conesContaining(u, v));
        int column = near(0, 8);
        Check.due("coneHeight", fan.coneHeight(cone, column), model.coneHeight(cone, column));
        Check.due("basisSize(" + cone + ")", fan.basisSize(cone), model.basisSize(cone));
        Check.due("basisCorner(" + cone + ", " + index + ")",
                fan.basisCorner(cone, index), model.basisCorner(cone, index));
        int i = near(0, 8);
        int j = near(0, 8);
        Check.due("basisCoefficient", fan.basisCoefficient(cone, index, i, j),
                model.basisCoefficient(cone, index, i, j));
        Check.due("changedCorners(" + cone + ")",
                fan.changedCorners(cone), model.changedCorners(cone));
        Check.due("universalSize()", fan.universalSize(), model.universalSize());
        Check.due("universalDegree()", fan.universalDegree(), model.universalDegree());
        Check.due("mirroredCone(" + cone + ")", fan.mirroredCone(cone), model.mirroredCone(cone));
        Check.due("flattestCone()", fan.flattestCone(), model.flattestCone());
    }

    private void polynomialCalls() {
        int cone = cone();
        int index = near(0, 3);
        switch (lot.nextInt(7)) {
            case 0:
                int point = near(0, model.pointCount() - 1);
                Check.due("evaluate(" + point + ")", fan.evaluate(point), model.evaluate(point));
                break;
            case 1:
                Check.due("isVanishing()", fan.isVanishing(), model.isVanishing());
                break;
            case 2:
                Check.due("reduceToNormalForm(" + cone + ")",
                        fan.reduceToNormalForm(cone), model.reduceToNormalForm(cone));
                break;
            case 3:
                int slot = slot();
                Check.due("interpolate(" + cone + ", " + slot + ")",
                        fan.interpolate(cone, slot), model.interpolate(cone, slot));
                break;
            case 4:
                Check.due("loadBasisPolynomial(" + cone + ", " + index + ")",
                        fan.loadBasisPolynomial(cone, index),
                        model.loadBasisPolynomial(cone, index));
                break;
            default:
                int i = near(0, 8);
                int j = near(0, 8);
                int value = lot.nextInt(4) == 0 ? lot.nextInt() : near(-40, 40);
                Check.due("setCoefficient(" + i + ", " + j + ", " + value + ")",
                        fan.setCoefficient(i, j, value), model.setCoefficient(i, j, value));
        }
        comparePolynomials();
    }

    private void comparePolynomials() {
        Check.due("termCount()", fan.termCount(), model.termCount());
        for (int i = -1; i <= 9; i++) {
            for (int j = -1; j <= 9; j++) {
                if (fan.coefficient(i, j) != model.coefficient(i, j)) {
                    Check.due("coefficient(" + i + ", " + j + ")",
                            fan.coefficient(i, j), model.coefficient(i, j));
                }
            }
        }
    }

    private void textCalls() {
        String marks = "0123456789,;,;,; x";
        switch (lot.nextInt(6)) {
            case 0:
                for (int k = lot.nextInt(4); k >= 0; k--) {
                    byteInto(marks.charAt(lot.nextInt(marks.length())));
                }
                break;
            case 1:
                byteInto(near(1, 127));
                break;
            case 2:
                Check.due("parsePoints()", fan.parsePoints(), model.parsePoints());
                Check.due("inputLength()", fan.inputLength(), model.inputLength());
                break;
            case 3:
                parseList();
                break;
            default:
                int cone = cone();
                int index = near(0, 3);
                Check.due("format(" + cone + ", " + index + ")",
                        fan.format(cone, index), model.format(cone, index));
        }
        for (int k = -1; k <= 64; k++) {
            if (fan.outputByte(k) != model.outputByte(k)) {
                Check.due("outputByte(" + k + ")", fan.outputByte(k), model.outputByte(k));
            }
        }
        Check.due("inputLength()", fan.inputLength(), model.inputLength());
    }

    private void parseList() {
        StringBuilder text = new StringBuilder();
        for (int k = lot.nextInt(16); k >= 0; k--) {
            text.append(lot.nextInt(12) == 0 ? "0" : "").append(lot.nextInt(model.prime() + 1));
            text.append(',').append(lot.nextInt(model.prime()));
            text.append(k > 0 || lot.nextInt(12) == 0 ? ";" : "");
        }
        for (int k = 0; k < text.length(); k++) {
            byteInto(text.charAt(k));
        }
        Check.due("parsePoints() of " + text, fan.parsePoints(), model.parsePoints());
    }

    private void slotCalls() {
        int slot = slot();
        int length = lot.nextInt(3) == 0 ? near(0, 20) : model.pointCount();
        int index = near(0, model.pointCount());
        switch (lot.nextInt(9)) {
            case 0:
                Check.due("newArray(" + slot + ", " + length + ")",
                        fan.newArray(slot, length), model.newArray(slot, length));
                break;
            case 1:
                Check.due("storePolynomial(" + slot + ")",
                        fan.storePolynomial(slot), model.storePolynomial(slot));
                break;
            case 2:
                Check.due("loadPolynomial(" + slot + ")",
                        fan.loadPolynomial(slot), model.loadPolynomial(slot));
                comparePolynomials();
                break;
            case 3:
                if (lot.nextInt(5) == 0) {
                    Check.due("clearSlot(" + slot + ")",
                            fan.clearSlot(slot), model.clearSlot(slot));
                }
                break;
            case 4:
                int cone = cone();
                Check.due("firstDifference(" + slot + ", " + cone + ")",
                        fan.firstDifference(slot, cone), model.firstDifference(slot, cone));
                break;
            case 5:
                fillWithHeights(slot, cone());
                break;
            case 6:
                Check.due("element(" + slot + ", " + index + ")",
                        fan.element(slot, index), model.element(slot, index));
                break;
            default:
                int value = near(0, 9999);
                Check.due("setElement(" + slot + ", " + index + ", " + value + ")",
                        fan.setElement(slot, index, value), model.setElement(slot, index, value));
        }
    }

    private void fillWithHeights(int slot, int cone) {
        int length = near(0, 10);
        Check.due("newArray", fan.newArray(slot, length), model.newArray(slot, length));
        for (int k = 0; k < length && k < 9; k++) {
            int height = Math.max(0, model.coneHeight(cone, k));
            Check.due("setElement", fan.setElement(slot, k, height),
                    model.setElement(slot, k, height));
        }
        Check.due("firstDifference(" + slot + ", " + cone + ")",
                fan.firstDifference(slot, cone), model.firstDifference(slot, cone));
    }

    private void snapshotCalls() {
        if (lot.nextBoolean()) {
            Check.due("saveSnapshot()", fan.saveSnapshot(), model.saveSnapshot());
        } else {
            Check.due("restoreSnapshot()", fan.restoreSnapshot(), model.restoreSnapshot());
        }
    }

    private void step() {
        int chance = lot.nextInt(100);
        if (chance < 30) {
            pointCalls();
        } else if (chance < 40) {
            orderCalls();
        } else if (chance < 55) {
            fanCalls();
        } else if (chance < 70) {
            polynomialCalls();
        } else if (chance < 80) {
            textCalls();
        } else if (chance < 97) {
            slotCalls();
        } else {
            snapshotCalls();
        }
    }

    public static void main(String[] args) {
        for (int run = 0; run < RUNS && !Check.hasFailed(); run++) {
            ModelTest test = new ModelTest(1000 + run);
            // Half of the runs begin with one prime and stay longer with its points.
            if (run % 2 == 0) {
                test.setPrime(PRIMES[run / 2 % 11]);
            }
            for (int call = 0; call < CALLS && !Check.hasFailed(); call++) {
                test.step();
            }
            if (Check.hasFailed()) {
                System.out.println("  in run " + run);
            }
        }
        Check.finish("ModelTest");
    }
}
