/** Objects made by the same calls: what a further call has changed shows when all is compared. */
final class Twins {
    private static final int PARTS = 9;

    interface Maker {
        GroebnerFan make();
    }

    interface Call {
        int on(GroebnerFan fan);
    }

    private final Maker maker;
    private final String[] before = new String[PARTS];

    Twins(Maker maker) {
        this.maker = maker;
        for (int part = 0; part < PARTS; part++) {
            before[part] = tell(maker.make(), part);
        }
    }

    /** The call answers what is due, and the object is as one that was not called. */
    void unchanged(String what, Call call, int due) {
        for (int part = 0; part < PARTS; part++) {
            GroebnerFan fan = maker.make();
            int answer = call.on(fan);
            if (part == 0) {
                Check.due(what, answer, due);
            }
            Check.due(what + " leaves the state unchanged", tell(fan, part), before[part]);
        }
    }

    /** Whatever the call answers, the object is as one that was not called. */
    void unchanged(String what, Call call) {
        unchanged(what, call, call.on(maker.make()));
    }

    /** Two calls leave objects behind that nothing tells apart. */
    void alike(String what, Call call, Call other) {
        for (int part = 0; part < PARTS; part++) {
            GroebnerFan one = maker.make();
            GroebnerFan two = maker.make();
            call.on(one);
            other.on(two);
            Check.due(what, tell(one, part), tell(two, part));
        }
    }

    /** One part of all that an object holds; the object is spoilt by it, and used for few calls. */
    private static String tell(GroebnerFan fan, int part) {
        switch (part) {
            case 0:
                return contents(fan);
            case 1:
                return Fans.output(fan) + "|" + cones(fan);
            case 2:
                return input(fan);
            case 3:
                return arrays(fan);
            case 4:
                return fan.restoreSnapshot() + "|" + contents(fan);
            default:
                return slotPolynomial(fan, part - 5);
        }
    }

    private static String contents(GroebnerFan fan) {
        return fan.prime() + "|" + Fans.points(fan) + "|" + Fans.polynomial(fan);
    }

    private static String cones(GroebnerFan fan) {
        StringBuilder text = new StringBuilder();
        for (int cone = 0; cone < fan.coneCount(); cone++) {
            text.append(fan.wallNumerator(cone)).append('/').append(fan.wallDenominator(cone));
            for (int k = 0; k < fan.basisSize(cone); k++) {
                text.append(' ').append(fan.basisCorner(cone, k));
            }
            text.append('|');
        }
        return text.toString();
    }

    /** The bytes cannot be asked for, but a list that goes on after them tells of them. */
    private static String input(GroebnerFan fan) {
        int length = fan.inputLength();
        fan.setPrime(31);
        return length + "|" + fan.parsePoints() + "|" + Fans.points(fan);
    }

    private static String arrays(GroebnerFan fan) {
        StringBuilder text = new StringBuilder();
        for (int slot = 0; slot < 4; slot++) {
            for (int k = 0; k <= 20; k++) {
                text.append(' ').append(fan.element(slot, k));
            }
            text.append('|');
        }
        return text.toString();
    }

    private static String slotPolynomial(GroebnerFan fan, int slot) {
        fan.setPrime(31);
        return fan.loadPolynomial(slot) + "|" + Fans.polynomial(fan);
    }
}
