/** Promises 49 and 50: the snapshot. */
public final class SnapshotTest {
    private SnapshotTest() {
    }

    private static void none() {
        GroebnerFan fan = Fans.of(5, 1, 2);
        fan.setCoefficient(1, 1, 3);
        String before = Fans.state(fan);
        Check.due("50: none was saved", fan.restoreSnapshot(), GroebnerFan.NONE);
        Check.due("50: nothing changes", Fans.state(fan), before);
        Check.due("49: without points", new GroebnerFan().saveSnapshot(), 0);
    }

    private static void saveAndRestore() {
        GroebnerFan fan = Fans.of(11, 10, 2, 3, 4);
        fan.setCoefficient(8, 7, 10);
        String before = Fans.state(fan);
        Check.due("49: saveSnapshot()", fan.saveSnapshot(), 2);
        Check.due("49: changes nothing", Fans.state(fan), before);
        fan.setPrime(3);
        fan.addPoint(1, 1);
        fan.addPoint(1, 2);
        fan.addPoint(1, 0);
        fan.setCoefficient(0, 0, 2);
        Check.due("50: another fan", fan.basisCorner(0, 0), 3);
        Check.due("50: restoreSnapshot()", fan.restoreSnapshot(), 2);
        Check.due("50: all is back", Fans.state(fan), before);
        Check.due("50: the fan follows", fan.basisCorner(0, 0), 2);
        fan.removePoint(0);
        fan.translate(1, 1);
        fan.setCoefficient(8, 7, 1);
        Check.due("50: the snapshot is kept", fan.restoreSnapshot(), 2);
        Check.due("50: and was not touched", Fans.state(fan), before);
        fan.swapCoordinates();
        fan.scale(2, 3);
        Check.due("49: an earlier one is replaced", fan.saveSnapshot(), 2);
        String second = Fans.state(fan);
        fan.removePoint(1);
        fan.removePoint(0);
        Check.due("50: the second", fan.restoreSnapshot(), 2);
        Check.due("50: the second", Fans.state(fan), second);
        fan.setPrime(2);
        Check.due("49: no points", fan.saveSnapshot(), 0);
        fan.setPrime(31);
        fan.addPoint(30, 30);
        Check.due("50: no points", fan.restoreSnapshot(), 0);
        Check.due("50: no points", fan.pointCount(), 0);
        Check.due("50: the prime", fan.prime(), 2);
    }

    private static void whatIsNoPart() {
        GroebnerFan fan = Fans.of(7, 0, 0, 1, 1);
        fan.appendInput('3');
        fan.newArray(0, 2);
        fan.setCoefficient(1, 0, 1);
        fan.storePolynomial(1);
        fan.format(0, 0);
        fan.saveSnapshot();
        Check.due("49: the input stays", fan.inputLength(), 1);
        fan.appendInput(',');
        fan.setElement(0, 1, 5);
        fan.newArray(1, 1);
        fan.newArray(2, 1);
        Check.due("50: another output", fan.format(1, 0), 7);
        fan.restoreSnapshot();
        Check.due("50: the input stays", fan.inputLength(), 2);
        Check.due("50: an array stays", fan.element(0, 1), 5);
        Check.due("50: what replaced a polynomial stays", fan.element(1, 0), 0);
        Check.due("50: a new array stays", fan.element(2, 0), 0);
        Check.due("50: the output stays", Fans.output(fan), "1y1+6x1");
        fan.appendInput('4');
        Check.due("50: the input's text stays", fan.parsePoints(), 1);
        Check.due("50: the input's text stays", Fans.points(fan), "0,0 1,1 3,4");
        fan.clearSlot(0);
        fan.restoreSnapshot();
        Check.due("50: a cleared slot stays so", fan.clearSlot(0), 0);
    }

    public static void main(String[] args) {
        none();
        saveAndRestore();
        whatIsNoPart();
        Check.finish("SnapshotTest");
    }
}
