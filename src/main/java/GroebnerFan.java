import java.util.Arrays;

/**
 * The Groebner fan of the vanishing ideal of a finite set of points in the plane over a prime
 * field, computed with the Buchberger-Moeller algorithm.
 *
 * <p>A monomial x^i y^j is held as the one number 9 * i + j, so that greater numbers are those with
 * the greater x exponent and, for equal x exponents, the greater y exponent.
 */
public final class GroebnerFan {
    public static final int NO_SUCH_INDEX = -1;
    public static final int BAD_VALUE = -2;
    public static final int DUPLICATE_POINT = -3;
    public static final int FULL = -4;
    public static final int NONE = -5;
    public static final int EMPTY_SLOT = -6;
    public static final int WRONG_TYPE = -7;
    public static final int NEGATIVE_SIZE = -8;
    public static final int LENGTH_MISMATCH = -9;
    public static final int SYNTAX_ERROR = -100;
    public static final int TIE_X = 0;
    public static final int TIE_Y = 1;

    private static final int[] PRIMES = {2, 3, 5, 7, 11, 13, 17, 19, 23, 29, 31};
    private static final int FIRST_PRIME = 7;
    private static final int MAX_POINTS = 8;
    /** The number of exponents: 0 to 8. */
    private static final int SIDE = 9;
    private static final int MONOMIALS = SIDE * SIDE;
    private static final int MAX_WEIGHT = 99;
    /** A corner and at most one standard monomial for each point. */
    private static final int MAX_TERMS = MAX_POINTS + 1;
    /** Five corners would need columns of four different heights, that is ten standard monomials. */
    private static final int MAX_CORNERS = 4;
    /**
     * Where a corner x^a y^b and x^c y^d give the wall (a - c) / (d - b), the d - b monomials from
     * x^c y^(b+1) to x^c y^d and the a - c from x^c y^b to x^(a-1) y^b are standard. So numerator and
     * denominator add up to at most 8, and just 21 positive fractions in lowest terms do that.
     */
    private static final int MAX_CONES = 22;
    private static final int MAX_INPUT = 60;
    /** Each number but the last takes a digit and a sign behind it. */
    private static final int MAX_NUMBERS = MAX_INPUT / 2;
    private static final int SLOTS = 4;
    private static final int MAX_ARRAY_LENGTH = 20;
    private static final int MAX_ELEMENT = 9999;
    /** What private searches answer when there is nothing to find. */
    private static final int NOWHERE = -1;

    private final Points points = new Points();
    private final Polynomial current = new Polynomial();
    private final Points savedPoints = new Points();
    private final Polynomial savedPolynomial = new Polynomial();
    private boolean isSaved = false;
    private final Elimination elimination = new Elimination(points);
    private final Order order = new Order();
    private final ReducedBasis orderBasis = new ReducedBasis();
    private final Fan fan = new Fan();
    private final InputText input = new InputText();
    private final StringBuilder output = new StringBuilder();
    private final Slot[] slots = new Slot[SLOTS];

    public GroebnerFan() {
        for (int k = 0; k < SLOTS; k++) {
            slots[k] = new Slot();
        }
    }

    // ---- field and points

    public int setPrime(int p) {
        if (!isAllowedPrime(p)) {
            return BAD_VALUE;
        }
        int previous = points.modulus;
        points.restart(p);
        current.clear();
        fan.forget();
        return previous;
    }

    public int prime() {
        return points.modulus;
    }

    public int addPoint(int x, int y) {
        if (!points.isResidue(x) || !points.isResidue(y)) {
            return BAD_VALUE;
        }
        if (points.holds(x, y)) {
            return DUPLICATE_POINT;
        }
        if (points.size >= MAX_POINTS) {
            return FULL;
        }
        points.append(x, y);
        fan.forget();
        return points.size;
    }

    public int removePoint(int index) {
        if (!points.hasIndex(index)) {
            return NO_SUCH_INDEX;
        }
        points.remove(index);
        fan.forget();
        return points.size;
    }

    public int pointCount() {
        return points.size;
    }

    public int pointX(int index) {
        return points.hasIndex(index) ? points.xs[index] : NO_SUCH_INDEX;
    }

    public int pointY(int index) {
        return points.hasIndex(index) ? points.ys[index] : NO_SUCH_INDEX;
    }

    public int swapCoordinates() {
        boolean isSymmetric = points.isSymmetric();
        points.mirror();
        fan.forget();
        return isSymmetric ? 1 : 0;
    }

    public int translate(int dx, int dy) {
        if (!points.isResidue(dx) || !points.isResidue(dy)) {
            return BAD_VALUE;
        }
        points.transform(1, dx, 1, dy);
        fan.forget();
        return points.size;
    }

    public int scale(int fx, int fy) {
        if (fx == 0 || fy == 0 || !points.isResidue(fx) || !points.isResidue(fy)) {
            return BAD_VALUE;
        }
        points.transform(fx, 0, fy, 0);
        fan.forget();
        return points.size;
    }

    // ---- one order

    public int columnHeight(int u, int v, int tie, int column) {
        if (!isExponent(column)) {
            return NO_SUCH_INDEX;
        }
        if (!isOrder(u, v, tie)) {
            return BAD_VALUE;
        }
        computeOrder(u, v, tie);
        return orderBasis.heights[column];
    }

    public int cornerCount(int u, int v, int tie) {
        if (!isOrder(u, v, tie)) {
            return BAD_VALUE;
        }
        computeOrder(u, v, tie);
        return orderBasis.size;
    }

    public int corner(int u, int v, int tie, int index) {
        if (!isOrder(u, v, tie)) {
            return BAD_VALUE;
        }
        computeOrder(u, v, tie);
        BasisPolynomial found = orderBasis.find(index);
        return found == null ? NO_SUCH_INDEX : decimalExponents(found.corner);
    }

    // ---- the fan

    public int coneCount() {
        fan.refresh(order, elimination);
        return fan.size;
    }

    public int wallNumerator(int cone) {
        ReducedBasis basis = findCone(cone);
        if (basis == null) {
            return NO_SUCH_INDEX;
        }
        return basis.hasWall() ? basis.wallTop : NONE;
    }

    public int wallDenominator(int cone) {
        ReducedBasis basis = findCone(cone);
        if (basis == null) {
            return NO_SUCH_INDEX;
        }
        return basis.hasWall() ? basis.wallBottom : NONE;
    }

    public int firstConeContaining(int u, int v) {
        if (!isWeight(u, v)) {
            return BAD_VALUE;
        }
        fan.refresh(order, elimination);
        return fan.firstWithin(u, v);
    }

    public int conesContaining(int u, int v) {
        if (!isWeight(u, v)) {
            return BAD_VALUE;
        }
        fan.refresh(order, elimination);
        ReducedBasis first = fan.find(fan.firstWithin(u, v));
        return first != null && first.hasOnWall(u, v) ? 2 : 1;
    }

    public int coneHeight(int cone, int column) {
        ReducedBasis basis = findCone(cone);
        if (basis == null || !isExponent(column)) {
            return NO_SUCH_INDEX;
        }
        return basis.heights[column];
    }

    public int basisSize(int cone) {
        ReducedBasis basis = findCone(cone);
        return basis == null ? NO_SUCH_INDEX : basis.size;
    }

    public int basisCorner(int cone, int index) {
        BasisPolynomial found = findBasisPolynomial(cone, index);
        return found == null ? NO_SUCH_INDEX : decimalExponents(found.corner);
    }

    public int basisCoefficient(int cone, int index, int i, int j) {
        BasisPolynomial found = findBasisPolynomial(cone, index);
        if (found == null || !isExponent(i) || !isExponent(j)) {
            return NO_SUCH_INDEX;
        }
        return found.factorOf(SIDE * i + j);
    }

    public int changedCorners(int cone) {
        ReducedBasis basis = findCone(cone);
        if (basis == null) {
            return NO_SUCH_INDEX;
        }
        ReducedBasis next = findCone(cone + 1);
        return next == null ? NONE : basis.countCornersOutside(next);
    }

    public int universalSize() {
        fan.refresh(order, elimination);
        return fan.countDistinctPolynomials();
    }

    public int universalDegree() {
        fan.refresh(order, elimination);
        return fan.greatestDegree();
    }

    public int mirroredCone(int cone) {
        ReducedBasis basis = findCone(cone);
        if (basis == null) {
            return NO_SUCH_INDEX;
        }
        int mirrored = fan.firstMirrorOf(basis);
        return mirrored == NOWHERE ? NONE : mirrored;
    }

    public int flattestCone() {
        fan.refresh(order, elimination);
        return fan.firstFlattest();
    }

    // ---- the current polynomial

    public int setCoefficient(int i, int j, int value) {
        if (!isExponent(i) || !isExponent(j)) {
            return NO_SUCH_INDEX;
        }
        int monomial = SIDE * i + j;
        int previous = current.factors[monomial];
        current.factors[monomial] = points.residue(value);
        return previous;
    }

    public int coefficient(int i, int j) {
        return isExponent(i) && isExponent(j) ? current.factors[SIDE * i + j] : NO_SUCH_INDEX;
    }

    public int termCount() {
        return current.countTerms();
    }

    public int evaluate(int index) {
        return points.hasIndex(index) ? current.valueAt(points, index) : NO_SUCH_INDEX;
    }

    public int isVanishing() {
        for (int k = 0; k < points.size; k++) {
            if (current.valueAt(points, k) != 0) {
                return 0;
            }
        }
        return 1;
    }

    public int reduceToNormalForm(int cone) {
        ReducedBasis basis = findCone(cone);
        if (basis == null) {
            return NO_SUCH_INDEX;
        }
        elimination.keepStandardMonomials(basis);
        for (int k = 0; k < points.size; k++) {
            elimination.values[k] = current.valueAt(points, k);
        }
        return replaceByInterpolation();
    }

    public int interpolate(int cone, int slot) {
        ReducedBasis basis = findCone(cone);
        Slot source = findSlot(slot);
        if (basis == null || source == null) {
            return NO_SUCH_INDEX;
        }
        if (source.kind != Slot.ARRAY) {
            return source.errorForArrays();
        }
        if (source.length != points.size) {
            return LENGTH_MISMATCH;
        }
        elimination.keepStandardMonomials(basis);
        for (int k = 0; k < points.size; k++) {
            elimination.values[k] = points.residue(source.numbers[k]);
        }
        return replaceByInterpolation();
    }

    public int loadBasisPolynomial(int cone, int index) {
        BasisPolynomial found = findBasisPolynomial(cone, index);
        if (found == null) {
            return NO_SUCH_INDEX;
        }
        current.clear();
        for (int k = 0; k < found.size; k++) {
            current.factors[found.monomials[k]] = found.factors[k];
        }
        return current.countTerms();
    }

    // ---- text

    public int appendInput(int b) {
        if (b < 1 || b > 127) {
            return BAD_VALUE;
        }
        if (input.length >= MAX_INPUT) {
            return FULL;
        }
        input.append(b);
        return input.length;
    }

    public int inputLength() {
        return input.length;
    }

    public int parsePoints() {
        int errorPosition = input.readNumbers();
        input.length = 0;
        if (errorPosition != NOWHERE) {
            return SYNTAX_ERROR - errorPosition;
        }
        int sizeBefore = points.size;
        for (int k = 0; k + 1 < input.numberCount; k += 2) {
            addPoint(input.numbers[k], input.numbers[k + 1]);
        }
        return points.size - sizeBefore;
    }

    public int format(int cone, int index) {
        BasisPolynomial found = findBasisPolynomial(cone, index);
        if (found == null) {
            return NO_SUCH_INDEX;
        }
        output.setLength(0);
        writeTerm(found.corner, 1);
        for (int k = 0; k < found.size; k++) {
            if (found.monomials[k] != found.corner) {
                output.append('+');
                writeTerm(found.monomials[k], found.factors[k]);
            }
        }
        return output.length();
    }

    public int outputByte(int position) {
        if (position < 0 || position >= output.length()) {
            return NO_SUCH_INDEX;
        }
        return output.charAt(position);
    }

    // ---- slots

    public int newArray(int slot, int length) {
        Slot target = findSlot(slot);
        if (target == null) {
            return NO_SUCH_INDEX;
        }
        if (length > MAX_ARRAY_LENGTH) {
            return BAD_VALUE;
        }
        if (length < 0) {
            return NEGATIVE_SIZE;
        }
        target.holdZeros(length);
        return 1;
    }

    public int setElement(int slot, int index, int value) {
        Slot target = findSlot(slot);
        if (target == null) {
            return NO_SUCH_INDEX;
        }
        if (value < 0 || value > MAX_ELEMENT) {
            return BAD_VALUE;
        }
        if (target.kind != Slot.ARRAY) {
            return target.errorForArrays();
        }
        if (index < 0 || index >= target.length) {
            return NO_SUCH_INDEX;
        }
        int previous = target.numbers[index];
        target.numbers[index] = value;
        return previous;
    }

    public int element(int slot, int index) {
        Slot source = findSlot(slot);
        if (source == null) {
            return NO_SUCH_INDEX;
        }
        if (source.kind != Slot.ARRAY) {
            return source.errorForArrays();
        }
        if (index < 0 || index >= source.length) {
            return NO_SUCH_INDEX;
        }
        return source.numbers[index];
    }

    public int storePolynomial(int slot) {
        Slot target = findSlot(slot);
        if (target == null) {
            return NO_SUCH_INDEX;
        }
        target.holdPolynomial(current);
        return current.countTerms();
    }

    public int loadPolynomial(int slot) {
        Slot source = findSlot(slot);
        if (source == null) {
            return NO_SUCH_INDEX;
        }
        if (source.kind == Slot.EMPTY) {
            return EMPTY_SLOT;
        }
        if (source.kind != Slot.POLYNOMIAL) {
            return WRONG_TYPE;
        }
        for (int k = 0; k < MONOMIALS; k++) {
            current.factors[k] = points.residue(source.numbers[k]);
        }
        return current.countTerms();
    }

    public int clearSlot(int slot) {
        Slot target = findSlot(slot);
        if (target == null) {
            return NO_SUCH_INDEX;
        }
        int previous = target.kind;
        target.kind = Slot.EMPTY;
        return previous;
    }

    public int firstDifference(int slot, int cone) {
        Slot source = findSlot(slot);
        ReducedBasis basis = findCone(cone);
        if (source == null || basis == null) {
            return NO_SUCH_INDEX;
        }
        if (source.kind != Slot.ARRAY) {
            return source.errorForArrays();
        }
        for (int k = 0; k < source.length; k++) {
            if (k >= SIDE || source.numbers[k] != basis.heights[k]) {
                return k;
            }
        }
        return NONE;
    }

    // ---- snapshot

    public int saveSnapshot() {
        savedPoints.copyFrom(points);
        savedPolynomial.copyFrom(current);
        isSaved = true;
        return points.size;
    }

    public int restoreSnapshot() {
        if (!isSaved) {
            return NONE;
        }
        points.copyFrom(savedPoints);
        current.copyFrom(savedPolynomial);
        fan.forget();
        return points.size;
    }

    // ---- what arguments may be

    private static boolean isAllowedPrime(int p) {
        for (int allowed : PRIMES) {
            if (allowed == p) {
                return true;
            }
        }
        return false;
    }

    private static boolean isExponent(int number) {
        return number >= 0 && number < SIDE;
    }

    private static boolean isWeight(int u, int v) {
        return u >= 0 && u <= MAX_WEIGHT && v >= 0 && v <= MAX_WEIGHT && (u != 0 || v != 0);
    }

    private static boolean isOrder(int u, int v, int tie) {
        return isWeight(u, v) && (tie == TIE_X || tie == TIE_Y);
    }

    // ---- what several methods need

    private static int decimalExponents(int monomial) {
        return 10 * (monomial / SIDE) + monomial % SIDE;
    }

    private void computeOrder(int u, int v, int tie) {
        order.choose(u, v, tie);
        orderBasis.compute(order, elimination);
    }

    /** The basis of a cone, or null if there is no such cone. */
    private ReducedBasis findCone(int cone) {
        fan.refresh(order, elimination);
        return fan.find(cone);
    }

    /** A polynomial of the basis of a cone, or null if there is no such cone or polynomial. */
    private BasisPolynomial findBasisPolynomial(int cone, int index) {
        ReducedBasis basis = findCone(cone);
        return basis == null ? null : basis.find(index);
    }

    /** A slot, or null if there is no such slot. */
    private Slot findSlot(int slot) {
        return slot >= 0 && slot < SLOTS ? slots[slot] : null;
    }

    /** Makes the current polynomial that of the kept monomials with the values given. */
    private int replaceByInterpolation() {
        elimination.reduceValues();
        current.clear();
        for (int k = 0; k < elimination.size; k++) {
            current.factors[elimination.monomials[k]] = elimination.combination[k];
        }
        return current.countTerms();
    }

    private void writeTerm(int monomial, int factor) {
        output.append(factor);
        int i = monomial / SIDE;
        int j = monomial % SIDE;
        if (i != 0) {
            output.append('x').append(i);
        }
        if (j != 0) {
            output.append('y').append(j);
        }
    }

    /** A list of different points over the integers modulo a prime. */
    private static final class Points {
        int modulus = FIRST_PRIME;
        int size = 0;
        final int[] xs = new int[MAX_POINTS];
        final int[] ys = new int[MAX_POINTS];

        void restart(int newModulus) {
            modulus = newModulus;
            size = 0;
        }

        void copyFrom(Points other) {
            modulus = other.modulus;
            size = other.size;
            System.arraycopy(other.xs, 0, xs, 0, MAX_POINTS);
            System.arraycopy(other.ys, 0, ys, 0, MAX_POINTS);
        }

        boolean isResidue(int number) {
            return number >= 0 && number < modulus;
        }

        int residue(int number) {
            return Math.floorMod(number, modulus);
        }

        /** The inverse of a number from 1 to modulus - 1. */
        int inverse(int number) {
            for (int k = 1; k < modulus; k++) {
                if (k * number % modulus == 1) {
                    return k;
                }
            }
            return 0;
        }

        boolean hasIndex(int index) {
            return index >= 0 && index < size;
        }

        boolean holds(int x, int y) {
            for (int k = 0; k < size; k++) {
                if (xs[k] == x && ys[k] == y) {
                    return true;
                }
            }
            return false;
        }

        void append(int x, int y) {
            if (size < MAX_POINTS) {
                xs[size] = x;
                ys[size] = y;
                size++;
            }
        }

        void remove(int index) {
            size--;
            for (int k = index; k < size; k++) {
                xs[k] = xs[k + 1];
                ys[k] = ys[k + 1];
            }
        }

        /** Whether exchanging x and y leads every point to a point of the list. */
        boolean isSymmetric() {
            for (int k = 0; k < size; k++) {
                if (!holds(ys[k], xs[k])) {
                    return false;
                }
            }
            return true;
        }

        void mirror() {
            for (int k = 0; k < size; k++) {
                int x = xs[k];
                xs[k] = ys[k];
                ys[k] = x;
            }
        }

        void transform(int fx, int dx, int fy, int dy) {
            for (int k = 0; k < size; k++) {
                xs[k] = (fx * xs[k] + dx) % modulus;
                ys[k] = (fy * ys[k] + dy) % modulus;
            }
        }

        int monomialAt(int monomial, int index) {
            return power(xs[index], monomial / SIDE) * power(ys[index], monomial % SIDE) % modulus;
        }

        private int power(int base, int exponent) {
            int product = 1;
            for (int k = 0; k < exponent; k++) {
                product = product * base % modulus;
            }
            return product;
        }
    }

    /** A polynomial with a place for the coefficient of every monomial. */
    private static final class Polynomial {
        final int[] factors = new int[MONOMIALS];

        void clear() {
            Arrays.fill(factors, 0);
        }

        void copyFrom(Polynomial other) {
            System.arraycopy(other.factors, 0, factors, 0, MONOMIALS);
        }

        int countTerms() {
            int count = 0;
            for (int factor : factors) {
                if (factor != 0) {
                    count++;
                }
            }
            return count;
        }

        int valueAt(Points points, int index) {
            int value = 0;
            for (int i = SIDE - 1; i >= 0; i--) {
                int column = 0;
                for (int j = SIDE - 1; j >= 0; j--) {
                    column = (column * points.ys[index] + factors[SIDE * i + j]) % points.modulus;
                }
                value = (value * points.xs[index] + column) % points.modulus;
            }
            return value;
        }
    }

    /** The order of a weight (u, v) and a tie rule. */
    private static final class Order {
        private int u = 1;
        private int v = 0;
        private int tie = TIE_Y;

        void choose(int newU, int newV, int newTie) {
            u = newU;
            v = newV;
            tie = newTie;
        }

        boolean isSmaller(int first, int second) {
            int weights = weightOf(first) - weightOf(second);
            if (weights != 0) {
                return weights < 0;
            }
            int heights = first % SIDE - second % SIDE;
            if (tie == TIE_Y && heights != 0) {
                return heights < 0;
            }
            return first < second;
        }

        private int weightOf(int monomial) {
            return u * (monomial / SIDE) + v * (monomial % SIDE);
        }
    }

    /**
     * Gaussian elimination on value vectors. Every row is a combination of the value vectors of the
     * monomials kept so far; its first nonzero value is a 1 at its pivot.
     */
    private static final class Elimination {
        final Points points;
        private final int[][] rows = new int[MAX_POINTS][MAX_POINTS];
        private final int[][] origins = new int[MAX_POINTS][MAX_POINTS];
        private final int[] pivots = new int[MAX_POINTS];
        int size = 0;
        final int[] monomials = new int[MAX_POINTS];
        /** The vector at work. */
        final int[] values = new int[MAX_POINTS];
        /** What the reduction has taken from the vector at work, by kept monomials. */
        final int[] combination = new int[MAX_POINTS];

        Elimination(Points points) {
            this.points = points;
        }

        void restart() {
            size = 0;
        }

        void keepStandardMonomials(ReducedBasis basis) {
            restart();
            for (int i = 0; i < SIDE; i++) {
                for (int j = 0; j < basis.heights[i]; j++) {
                    keepIfIndependent(SIDE * i + j);
                }
            }
        }

        /** Keeps a monomial whose value vector is no combination of those of the kept ones. */
        boolean keepIfIndependent(int monomial) {
            for (int k = 0; k < points.size; k++) {
                values[k] = points.monomialAt(monomial, k);
            }
            reduceValues();
            int pivot = firstNonzeroValue();
            if (pivot == NOWHERE || size >= MAX_POINTS) {
                return false;
            }
            keepValues(monomial, pivot);
            return true;
        }

        void reduceValues() {
            Arrays.fill(combination, 0);
            for (int k = 0; k < size; k++) {
                int factor = values[pivots[k]];
                addMultiple(values, rows[k], points.modulus - factor);
                addMultiple(combination, origins[k], factor);
            }
        }

        private void addMultiple(int[] target, int[] row, int factor) {
            for (int k = 0; k < points.size; k++) {
                target[k] = (target[k] + factor * row[k]) % points.modulus;
            }
        }

        private int firstNonzeroValue() {
            for (int k = 0; k < points.size; k++) {
                if (values[k] != 0) {
                    return k;
                }
            }
            return NOWHERE;
        }

        private void keepValues(int monomial, int pivot) {
            int unit = points.inverse(values[pivot]);
            int negative = points.modulus - unit;
            for (int k = 0; k < points.size; k++) {
                rows[size][k] = unit * values[k] % points.modulus;
                origins[size][k] = negative * combination[k] % points.modulus;
            }
            origins[size][size] = unit;
            pivots[size] = pivot;
            monomials[size] = monomial;
            size++;
        }
    }

    /** A polynomial of a reduced basis: its corner and all its terms, by falling monomials. */
    private static final class BasisPolynomial {
        int corner = 0;
        int size = 0;
        final int[] monomials = new int[MAX_TERMS];
        final int[] factors = new int[MAX_TERMS];

        /** Takes the corner less the combination that the elimination has found for it. */
        void take(int newCorner, Elimination elimination) {
            corner = newCorner;
            size = 0;
            insertTerm(newCorner, 1);
            for (int k = 0; k < elimination.size; k++) {
                int factor = elimination.combination[k];
                if (factor != 0) {
                    insertTerm(elimination.monomials[k], elimination.points.modulus - factor);
                }
            }
        }

        private void insertTerm(int monomial, int factor) {
            if (size >= MAX_TERMS) {
                return;
            }
            int place = size;
            for (int k = size - 1; k >= 0 && monomials[k] < monomial; k--) {
                monomials[k + 1] = monomials[k];
                factors[k + 1] = factors[k];
                place = k;
            }
            monomials[place] = monomial;
            factors[place] = factor;
            size++;
        }

        int factorOf(int monomial) {
            for (int k = 0; k < size; k++) {
                if (monomials[k] == monomial) {
                    return factors[k];
                }
            }
            return 0;
        }

        /** Whether the terms are the same; corners may differ, as for x + y in two cones. */
        boolean hasTermsOf(BasisPolynomial other) {
            if (size != other.size) {
                return false;
            }
            for (int k = 0; k < size; k++) {
                if (monomials[k] != other.monomials[k] || factors[k] != other.factors[k]) {
                    return false;
                }
            }
            return true;
        }

        int degree() {
            int greatest = 0;
            for (int k = 0; k < size; k++) {
                greatest = Math.max(greatest, monomials[k] / SIDE + monomials[k] % SIDE);
            }
            return greatest;
        }
    }

    /** The standard monomials, the reduced basis and the wall for one order. */
    private static final class ReducedBasis {
        final int[] heights = new int[SIDE];
        int size = 0;
        final BasisPolynomial[] polynomials = new BasisPolynomial[MAX_CORNERS];
        int wallTop = 0;
        /** 0 where there is no wall. */
        int wallBottom = 0;

        ReducedBasis() {
            for (int k = 0; k < MAX_CORNERS; k++) {
                polynomials[k] = new BasisPolynomial();
            }
        }

        BasisPolynomial find(int index) {
            return index >= 0 && index < size ? polynomials[index] : null;
        }

        /** Takes monomials by rising order: each raises its column or is a corner. */
        void compute(Order order, Elimination elimination) {
            Arrays.fill(heights, 0);
            size = 0;
            elimination.restart();
            for (int step = 0; step < MAX_POINTS + MAX_CORNERS; step++) {
                int column = nextColumn(order);
                if (column == NOWHERE) {
                    break;
                }
                int monomial = topOf(column);
                if (elimination.keepIfIndependent(monomial)) {
                    heights[column]++;
                } else {
                    insertCorner(monomial, elimination);
                }
            }
            findWall();
        }

        /** The first monomial of a column that is not known to be standard. */
        private int topOf(int column) {
            return SIDE * column + heights[column];
        }

        /** The column whose top is the smallest of those that no corner divides. */
        private int nextColumn(Order order) {
            int best = NOWHERE;
            for (int column = 0; column < SIDE; column++) {
                if (!isClosed(column)
                        && (best == NOWHERE || order.isSmaller(topOf(column), topOf(best)))) {
                    best = column;
                }
            }
            return best;
        }

        private boolean isClosed(int column) {
            for (int k = 0; k < size; k++) {
                int corner = polynomials[k].corner;
                if (corner / SIDE <= column && corner % SIDE <= heights[column]) {
                    return true;
                }
            }
            return false;
        }

        private void insertCorner(int corner, Elimination elimination) {
            if (size >= MAX_CORNERS) {
                return;
            }
            BasisPolynomial added = polynomials[size];
            int place = size;
            for (int k = size - 1; k >= 0 && polynomials[k].corner > corner; k--) {
                polynomials[k + 1] = polynomials[k];
                place = k;
            }
            polynomials[place] = added;
            added.take(corner, elimination);
            size++;
        }

        private void findWall() {
            wallTop = 0;
            wallBottom = 0;
            for (int k = 0; k < size; k++) {
                lowerWall(polynomials[k]);
            }
            for (int divisor = SIDE; divisor > 1; divisor--) {
                if (wallTop % divisor == 0 && wallBottom % divisor == 0) {
                    wallTop /= divisor;
                    wallBottom /= divisor;
                }
            }
        }

        private void lowerWall(BasisPolynomial polynomial) {
            int corner = polynomial.corner;
            for (int k = 0; k < polynomial.size; k++) {
                int other = polynomial.monomials[k];
                int top = corner / SIDE - other / SIDE;
                int bottom = other % SIDE - corner % SIDE;
                if (bottom > 0 && (!hasWall() || top * wallBottom < wallTop * bottom)) {
                    wallTop = top;
                    wallBottom = bottom;
                }
            }
        }

        boolean hasWall() {
            return wallBottom != 0;
        }

        boolean hasAboveWall(int u, int v) {
            return hasWall() && v * wallBottom > wallTop * u;
        }

        boolean hasOnWall(int u, int v) {
            return hasWall() && v * wallBottom == wallTop * u;
        }

        int countCornersOutside(ReducedBasis other) {
            int count = 0;
            for (int k = 0; k < size; k++) {
                if (!other.hasCorner(polynomials[k].corner)) {
                    count++;
                }
            }
            return count;
        }

        private boolean hasCorner(int monomial) {
            for (int k = 0; k < size; k++) {
                if (polynomials[k].corner == monomial) {
                    return true;
                }
            }
            return false;
        }

        boolean holdsTermsOf(BasisPolynomial polynomial) {
            for (int k = 0; k < size; k++) {
                if (polynomials[k].hasTermsOf(polynomial)) {
                    return true;
                }
            }
            return false;
        }

        boolean isMirrorOf(ReducedBasis other) {
            for (int k = 0; k < SIDE; k++) {
                if (heights[k] != other.rowLength(k)) {
                    return false;
                }
            }
            return true;
        }

        private int rowLength(int row) {
            int count = 0;
            for (int height : heights) {
                if (height > row) {
                    count++;
                }
            }
            return count;
        }

        /** The greatest total degree of a standard monomial, or -1 if there is none. */
        int standardDegree() {
            int greatest = -1;
            for (int i = 0; i < SIDE; i++) {
                if (heights[i] > 0) {
                    greatest = Math.max(greatest, i + heights[i] - 1);
                }
            }
            return greatest;
        }
    }

    /** The cones by rising walls. */
    private static final class Fan {
        /** 0 while the cones are not known. */
        int size = 0;
        /** Used again for other points; those from size on are out of use. */
        private final ReducedBasis[] cones = new ReducedBasis[MAX_CONES];

        Fan() {
            for (int k = 0; k < MAX_CONES; k++) {
                cones[k] = new ReducedBasis();
            }
        }

        void forget() {
            size = 0;
        }

        ReducedBasis find(int cone) {
            return cone >= 0 && cone < size ? cones[cone] : null;
        }

        void refresh(Order order, Elimination elimination) {
            if (size > 0) {
                return;
            }
            order.choose(1, 0, TIE_Y);
            for (int k = 0; k < MAX_CONES; k++) {
                ReducedBasis cone = cones[k];
                cone.compute(order, elimination);
                size = k + 1;
                if (!cone.hasWall()) {
                    break;
                }
                order.choose(cone.wallBottom, cone.wallTop, TIE_Y);
            }
        }

        int firstWithin(int u, int v) {
            for (int k = 0; k < size; k++) {
                if (!cones[k].hasAboveWall(u, v)) {
                    return k;
                }
            }
            return NOWHERE;
        }

        int countDistinctPolynomials() {
            int count = 0;
            for (int k = 0; k < size; k++) {
                ReducedBasis cone = cones[k];
                for (int index = 0; index < cone.size; index++) {
                    if (!isBefore(k, cone.polynomials[index])) {
                        count++;
                    }
                }
            }
            return count;
        }

        /** Whether a polynomial stands in the basis of a cone before the given one. */
        private boolean isBefore(int cone, BasisPolynomial polynomial) {
            for (int k = 0; k < cone; k++) {
                if (cones[k].holdsTermsOf(polynomial)) {
                    return true;
                }
            }
            return false;
        }

        int greatestDegree() {
            int greatest = 0;
            for (int k = 0; k < size; k++) {
                ReducedBasis cone = cones[k];
                for (int index = 0; index < cone.size; index++) {
                    greatest = Math.max(greatest, cone.polynomials[index].degree());
                }
            }
            return greatest;
        }

        int firstMirrorOf(ReducedBasis basis) {
            for (int k = 0; k < size; k++) {
                if (cones[k].isMirrorOf(basis)) {
                    return k;
                }
            }
            return NOWHERE;
        }

        int firstFlattest() {
            int best = 0;
            for (int k = 1; k < size; k++) {
                if (cones[k].standardDegree() < cones[best].standardDegree()) {
                    best = k;
                }
            }
            return best;
        }
    }

    /** The bytes of the input, and the numbers read from them. */
    private static final class InputText {
        int length = 0;
        private final byte[] bytes = new byte[MAX_INPUT];
        int numberCount = 0;
        final int[] numbers = new int[MAX_NUMBERS];

        void append(int b) {
            if (length < MAX_INPUT) {
                bytes[length] = (byte) b;
                length++;
            }
        }

        /** Reads the numbers of a list of points; answers where it errs, or NOWHERE. */
        int readNumbers() {
            numberCount = 0;
            int value = 0;
            int digits = 0;
            for (int k = 0; k < length; k++) {
                int b = bytes[k];
                if (isDigit(b) && digits < 2) {
                    value = 10 * value + b - '0';
                    digits++;
                } else if (digits > 0 && b == signBehindNumber()) {
                    appendNumber(value);
                    value = 0;
                    digits = 0;
                } else {
                    return k;
                }
            }
            if (digits == 0 || signBehindNumber() == ',') {
                return length;
            }
            appendNumber(value);
            return NOWHERE;
        }

        private static boolean isDigit(int b) {
            return b >= '0' && b <= '9';
        }

        private int signBehindNumber() {
            return numberCount % 2 == 0 ? ',' : ';';
        }

        private void appendNumber(int value) {
            if (numberCount < MAX_NUMBERS) {
                numbers[numberCount] = value;
                numberCount++;
            }
        }
    }

    /** A place for an array or a polynomial; both use the same row of numbers. */
    private static final class Slot {
        static final int EMPTY = 0;
        static final int ARRAY = 1;
        static final int POLYNOMIAL = 2;

        int kind = EMPTY;
        int length = 0;
        final int[] numbers = new int[MONOMIALS];

        void holdZeros(int newLength) {
            kind = ARRAY;
            length = newLength;
            Arrays.fill(numbers, 0);
        }

        void holdPolynomial(Polynomial polynomial) {
            kind = POLYNOMIAL;
            length = MONOMIALS;
            System.arraycopy(polynomial.factors, 0, numbers, 0, MONOMIALS);
        }

        /** The error for a slot that should hold an array and does not. */
        int errorForArrays() {
            return kind == EMPTY ? EMPTY_SLOT : WRONG_TYPE;
        }
    }
}
