import java.math.BigInteger;
import java.util.ArrayList;
import java.util.Arrays;
import java.util.HashMap;
import java.util.HashSet;
import java.util.List;
import java.util.Map;
import java.util.Set;
import java.util.regex.Matcher;
import java.util.regex.Pattern;

/**
 * The document once more, written from its definitions and not for speed, so that the class can be
 * compared with it: standard monomials by ranks over all smaller monomials, corners by their proper
 * divisors, basis polynomials and interpolation by solving linear equations.
 */
final class Model {
    private static final Pattern LIST =
            Pattern.compile("[0-9]{1,2},[0-9]{1,2}(;[0-9]{1,2},[0-9]{1,2})*");

    /** One order's standard monomials, corners and reduced basis. */
    private static final class Basis {
        final Set<Integer> standard = new HashSet<>();
        final List<Integer> corners = new ArrayList<>();
        final List<int[][]> polynomials = new ArrayList<>();
        int wallTop;
        int wallBottom;

        int height(int column) {
            int count = 0;
            for (int monomial : standard) {
                if (monomial / 10 == column) {
                    count++;
                }
            }
            return count;
        }
    }

    private static final Map<String, List<Basis>> KNOWN_FANS = new HashMap<>();

    private int p = 7;
    private List<int[]> points = new ArrayList<>();
    private int[][] current = new int[9][9];
    private final StringBuilder input = new StringBuilder();
    private String output = "";
    private final Object[] slots = new Object[4];
    private int savedPrime = 0;
    private List<int[]> savedPoints = null;
    private int[][] savedPolynomial = null;

    // ---- field and points

    int setPrime(int prime) {
        if (prime < 2 || prime > 31 || !BigInteger.valueOf(prime).isProbablePrime(50)) {
            return -2;
        }
        int previous = p;
        p = prime;
        points = new ArrayList<>();
        current = new int[9][9];
        return previous;
    }

    int prime() {
        return p;
    }

    private boolean outside(int low, int high, int... numbers) {
        for (int number : numbers) {
            if (number < low || number > high) {
                return true;
            }
        }
        return false;
    }

    int addPoint(int x, int y) {
        if (outside(0, p - 1, x, y)) {
            return -2;
        }
        if (keys(points).contains(x + "," + y)) {
            return -3;
        }
        if (points.size() == 8) {
            return -4;
        }
        points.add(new int[] {x, y});
        return points.size();
    }

    private static Set<String> keys(List<int[]> list) {
        Set<String> keys = new HashSet<>();
        for (int[] point : list) {
            keys.add(point[0] + "," + point[1]);
        }
        return keys;
    }

    int removePoint(int index) {
        if (outside(0, points.size() - 1, index)) {
            return -1;
        }
        points.remove(index);
        return points.size();
    }

    int pointCount() {
        return points.size();
    }

    int pointX(int index) {
        return outside(0, points.size() - 1, index) ? -1 : points.get(index)[0];
    }

    int pointY(int index) {
        return outside(0, points.size() - 1, index) ? -1 : points.get(index)[1];
    }

    int swapCoordinates() {
        List<int[]> swapped = new ArrayList<>();
        for (int[] point : points) {
            swapped.add(new int[] {point[1], point[0]});
        }
        int answer = keys(swapped).equals(keys(points)) ? 1 : 0;
        points = swapped;
        return answer;
    }

    int translate(int dx, int dy) {
        return outside(0, p - 1, dx, dy) ? -2 : map(1, dx, 1, dy);
    }

    int scale(int fx, int fy) {
        return outside(1, p - 1, fx, fy) ? -2 : map(fx, 0, fy, 0);
    }

    private int map(int fx, int dx, int fy, int dy) {
        List<int[]> mapped = new ArrayList<>();
        for (int[] point : points) {
            mapped.add(new int[] {(point[0] * fx + dx) % p, (point[1] * fy + dy) % p});
        }
        points = mapped;
        return points.size();
    }

    // ---- linear algebra

    private int power(int base, int exponent) {
        return BigInteger.valueOf(base).pow(exponent).mod(BigInteger.valueOf(p)).intValue();
    }

    private int[] valueVector(int monomial) {
        int[] vector = new int[points.size()];
        for (int k = 0; k < vector.length; k++) {
            int[] point = points.get(k);
            vector[k] = power(point[0], monomial / 10) * power(point[1], monomial % 10) % p;
        }
        return vector;
    }

    /** Numbers c with c0 * columns0 + c1 * columns1 + .. = target, or null if there are none. */
    private int[] solve(List<int[]> columns, int[] target) {
        int width = columns.size();
        int[][] rows = new int[target.length][width + 1];
        for (int k = 0; k < target.length; k++) {
            for (int c = 0; c < width; c++) {
                rows[k][c] = columns.get(c)[k];
            }
            rows[k][width] = target[k];
        }
        int[] pivotRow = new int[width];
        Arrays.fill(pivotRow, -1);
        int used = 0;
        for (int c = 0; c < width; c++) {
            int found = used;
            while (found < rows.length && rows[found][c] == 0) {
                found++;
            }
            if (found == rows.length) {
                continue;
            }
            int[] row = rows[found];
            rows[found] = rows[used];
            rows[used] = row;
            int unit = power(row[c], p - 2);
            for (int e = 0; e <= width; e++) {
                row[e] = row[e] * unit % p;
            }
            for (int[] other : rows) {
                int factor = other[c];
                if (other != row) {
                    for (int e = 0; e <= width; e++) {
                        other[e] = Math.floorMod(other[e] - factor * row[e], p);
                    }
                }
            }
            pivotRow[c] = used++;
        }
        for (int k = used; k < rows.length; k++) {
            if (rows[k][width] != 0) {
                return null;
            }
        }
        int[] solution = new int[width];
        for (int c = 0; c < width; c++) {
            solution[c] = pivotRow[c] < 0 ? 0 : rows[pivotRow[c]][width];
        }
        return solution;
    }

    // ---- one order

    private static boolean greater(int first, int second, int u, int v, int tie) {
        int a = first / 10;
        int b = first % 10;
        int c = second / 10;
        int d = second % 10;
        if (u * a + v * b != u * c + v * d) {
            return u * a + v * b > u * c + v * d;
        }
        if (tie == 0) {
            return a != c ? a > c : b > d;
        }
        return b != d ? b > d : a > c;
    }

    private Basis basis(int u, int v, int tie) {
        List<Integer> monomials = new ArrayList<>();
        for (int i = 0; i <= 8; i++) {
            for (int j = 0; j <= 8; j++) {
                monomials.add(10 * i + j);
            }
        }
        monomials.sort((m, n) -> m.equals(n) ? 0 : greater(m, n, u, v, tie) ? 1 : -1);
        Basis basis = new Basis();
        List<int[]> smaller = new ArrayList<>();
        for (int monomial : monomials) {
            int[] vector = valueVector(monomial);
            if (solve(smaller, vector) == null) {
                basis.standard.add(monomial);
            }
            smaller.add(vector);
        }
        for (int i = 0; i <= 8; i++) {
            for (int j = 0; j <= 8; j++) {
                if (isCorner(basis, i, j)) {
                    basis.corners.add(10 * i + j);
                    basis.polynomials.add(basisPolynomial(basis, 10 * i + j, u, v, tie));
                }
            }
        }
        findWall(basis);
        return basis;
    }

    private static boolean isCorner(Basis basis, int i, int j) {
        for (int c = 0; c <= i; c++) {
            for (int d = 0; d <= j; d++) {
                boolean proper = c != i || d != j;
                if (basis.standard.contains(10 * c + d) != proper) {
                    return false;
                }
            }
        }
        return true;
    }

    private int[][] basisPolynomial(Basis basis, int corner, int u, int v, int tie) {
        List<Integer> allowed = new ArrayList<>();
        List<int[]> columns = new ArrayList<>();
        for (int monomial : basis.standard) {
            if (greater(corner, monomial, u, v, tie)) {
                allowed.add(monomial);
                columns.add(valueVector(monomial));
            }
        }
        int[] solution = solve(columns, valueVector(corner));
        int[][] polynomial = new int[9][9];
        polynomial[corner / 10][corner % 10] = 1;
        for (int k = 0; k < solution.length; k++) {
            polynomial[allowed.get(k) / 10][allowed.get(k) % 10] = (p - solution[k]) % p;
        }
        return polynomial;
    }

    private static void findWall(Basis basis) {
        for (int k = 0; k < basis.corners.size(); k++) {
            int a = basis.corners.get(k) / 10;
            int b = basis.corners.get(k) % 10;
            for (int c = 0; c <= 8; c++) {
                for (int d = b + 1; d <= 8; d++) {
                    if (basis.polynomials.get(k)[c][d] != 0) {
                        lowerWall(basis, a - c, d - b);
                    }
                }
            }
        }
    }

    private static void lowerWall(Basis basis, int top, int bottom) {
        if (basis.wallBottom == 0 || top * basis.wallBottom < basis.wallTop * bottom) {
            int divisor = BigInteger.valueOf(top).gcd(BigInteger.valueOf(bottom)).intValue();
            basis.wallTop = top / divisor;
            basis.wallBottom = bottom / divisor;
        }
    }

    private boolean badOrder(int u, int v, int tie) {
        return outside(0, 99, u, v) || u + v == 0 || outside(0, 1, tie);
    }

    int columnHeight(int u, int v, int tie, int column) {
        if (outside(0, 8, column)) {
            return -1;
        }
        return badOrder(u, v, tie) ? -2 : basis(u, v, tie).height(column);
    }

    int cornerCount(int u, int v, int tie) {
        return badOrder(u, v, tie) ? -2 : basis(u, v, tie).corners.size();
    }

    int corner(int u, int v, int tie, int index) {
        if (badOrder(u, v, tie)) {
            return -2;
        }
        Basis basis = basis(u, v, tie);
        return outside(0, basis.corners.size() - 1, index) ? -1 : basis.corners.get(index);
    }

    // ---- the fan

    private List<Basis> fan() {
        StringBuilder key = new StringBuilder().append(p);
        for (int[] point : points) {
            key.append(';').append(point[0]).append(',').append(point[1]);
        }
        List<Basis> known = KNOWN_FANS.get(key.toString());
        if (known != null) {
            return known;
        }
        List<Basis> cones = new ArrayList<>();
        Basis cone = basis(1, 0, 1);
        cones.add(cone);
        while (cone.wallBottom != 0) {
            cone = basis(cone.wallBottom, cone.wallTop, 1);
            cones.add(cone);
        }
        KNOWN_FANS.put(key.toString(), cones);
        return cones;
    }

    private Basis cone(int index) {
        return index < 0 || index >= fan().size() ? null : fan().get(index);
    }

    int coneCount() {
        return fan().size();
    }

    int wallNumerator(int cone) {
        return cone(cone) == null ? -1 : cone(cone + 1) == null ? -5 : cone(cone).wallTop;
    }

    int wallDenominator(int cone) {
        return cone(cone) == null ? -1 : cone(cone + 1) == null ? -5 : cone(cone).wallBottom;
    }

    private List<Integer> conesWith(int u, int v) {
        List<Integer> found = new ArrayList<>();
        for (int k = 0; k < fan().size(); k++) {
            boolean above = k == 0 || u == 0 || compare(v, u, cone(k - 1)) >= 0;
            boolean below = k == fan().size() - 1 || u != 0 && compare(v, u, cone(k)) <= 0;
            if (above && below) {
                found.add(k);
            }
        }
        return found;
    }

    /** The sign of v / u less the wall. */
    private static int compare(int v, int u, Basis cone) {
        return Integer.compare(v * cone.wallBottom, u * cone.wallTop);
    }

    int firstConeContaining(int u, int v) {
        return badOrder(u, v, 0) ? -2 : conesWith(u, v).get(0);
    }

    int conesContaining(int u, int v) {
        return badOrder(u, v, 0) ? -2 : conesWith(u, v).size();
    }

    int coneHeight(int cone, int column) {
        return cone(cone) == null || outside(0, 8, column) ? -1 : cone(cone).height(column);
    }

    int basisSize(int cone) {
        return cone(cone) == null ? -1 : cone(cone).polynomials.size();
    }

    private boolean noPolynomial(int cone, int index) {
        return cone(cone) == null || outside(0, cone(cone).polynomials.size() - 1, index);
    }

    int basisCorner(int cone, int index) {
        return noPolynomial(cone, index) ? -1 : cone(cone).corners.get(index);
    }

    int basisCoefficient(int cone, int index, int i, int j) {
        if (noPolynomial(cone, index) || outside(0, 8, i, j)) {
            return -1;
        }
        return cone(cone).polynomials.get(index)[i][j];
    }

    int changedCorners(int cone) {
        if (cone(cone) == null) {
            return -1;
        }
        if (cone(cone + 1) == null) {
            return -5;
        }
        Set<Integer> corners = new HashSet<>(cone(cone).corners);
        corners.removeAll(cone(cone + 1).corners);
        return corners.size();
    }

    private Map<String, int[][]> universal() {
        Map<String, int[][]> universal = new HashMap<>();
        for (Basis cone : fan()) {
            for (int[][] polynomial : cone.polynomials) {
                universal.put(Arrays.deepToString(polynomial), polynomial);
            }
        }
        return universal;
    }

    int universalSize() {
        return universal().size();
    }

    int universalDegree() {
        int degree = 0;
        for (int[][] polynomial : universal().values()) {
            for (int i = 0; i <= 8; i++) {
                for (int j = 0; j <= 8; j++) {
                    degree = polynomial[i][j] == 0 ? degree : Math.max(degree, i + j);
                }
            }
        }
        return degree;
    }

    int mirroredCone(int cone) {
        if (cone(cone) == null) {
            return -1;
        }
        Set<Integer> mirrored = new HashSet<>();
        for (int monomial : cone(cone).standard) {
            mirrored.add(monomial % 10 * 10 + monomial / 10);
        }
        for (int k = 0; k < fan().size(); k++) {
            if (cone(k).standard.equals(mirrored)) {
                return k;
            }
        }
        return -5;
    }

    int flattestCone() {
        int best = 0;
        int bestDegree = Integer.MAX_VALUE;
        for (int k = 0; k < fan().size(); k++) {
            int degree = -1;
            for (int monomial : cone(k).standard) {
                degree = Math.max(degree, monomial / 10 + monomial % 10);
            }
            if (degree < bestDegree) {
                best = k;
                bestDegree = degree;
            }
        }
        return best;
    }

    // ---- the current polynomial

    int setCoefficient(int i, int j, int value) {
        if (outside(0, 8, i, j)) {
            return -1;
        }
        int previous = current[i][j];
        current[i][j] = (int) ((value % (long) p + p) % p);
        return previous;
    }

    int coefficient(int i, int j) {
        return outside(0, 8, i, j) ? -1 : current[i][j];
    }

    private static int terms(int[][] polynomial) {
        int count = 0;
        for (int[] row : polynomial) {
            for (int c : row) {
                count += c == 0 ? 0 : 1;
            }
        }
        return count;
    }

    int termCount() {
        return terms(current);
    }

    int evaluate(int index) {
        if (outside(0, points.size() - 1, index)) {
            return -1;
        }
        int sum = 0;
        for (int i = 0; i <= 8; i++) {
            for (int j = 0; j <= 8; j++) {
                int[] point = points.get(index);
                sum += current[i][j] * power(point[0], i) * power(point[1], j);
            }
        }
        return sum % p;
    }

    int isVanishing() {
        for (int k = 0; k < points.size(); k++) {
            if (evaluate(k) != 0) {
                return 0;
            }
        }
        return 1;
    }

    private int become(Basis cone, int[] values) {
        List<Integer> allowed = new ArrayList<>(cone.standard);
        List<int[]> columns = new ArrayList<>();
        for (int monomial : allowed) {
            columns.add(valueVector(monomial));
        }
        int[] solution = solve(columns, values);
        current = new int[9][9];
        for (int k = 0; k < solution.length; k++) {
            current[allowed.get(k) / 10][allowed.get(k) % 10] = solution[k];
        }
        return terms(current);
    }

    int reduceToNormalForm(int cone) {
        if (cone(cone) == null) {
            return -1;
        }
        int[] values = new int[points.size()];
        for (int k = 0; k < values.length; k++) {
            values[k] = evaluate(k);
        }
        return become(cone(cone), values);
    }

    int interpolate(int cone, int slot) {
        if (cone(cone) == null || outside(0, 3, slot)) {
            return -1;
        }
        if (!(slots[slot] instanceof int[])) {
            return slots[slot] == null ? -6 : -7;
        }
        int[] values = ((int[]) slots[slot]).clone();
        if (values.length != points.size()) {
            return -9;
        }
        for (int k = 0; k < values.length; k++) {
            values[k] %= p;
        }
        return become(cone(cone), values);
    }

    int loadBasisPolynomial(int cone, int index) {
        if (noPolynomial(cone, index)) {
            return -1;
        }
        current = copy(cone(cone).polynomials.get(index));
        return terms(current);
    }

    private static int[][] copy(int[][] polynomial) {
        int[][] copy = new int[9][];
        for (int i = 0; i <= 8; i++) {
            copy[i] = polynomial[i].clone();
        }
        return copy;
    }

    // ---- text

    int appendInput(int b) {
        if (b < 1 || b > 127) {
            return -2;
        }
        if (input.length() == 60) {
            return -4;
        }
        input.append((char) b);
        return input.length();
    }

    int inputLength() {
        return input.length();
    }

    int parsePoints() {
        String text = input.toString();
        input.setLength(0);
        if (!LIST.matcher(text).matches()) {
            int position = text.length();
            while (!canBeContinued(text.substring(0, position))) {
                position--;
            }
            return -100 - position;
        }
        int added = 0;
        for (String point : text.split(";")) {
            String[] numbers = point.split(",");
            if (addPoint(Integer.parseInt(numbers[0]), Integer.parseInt(numbers[1])) > 0) {
                added++;
            }
        }
        return added;
    }

    private static boolean canBeContinued(String prefix) {
        Matcher matcher = LIST.matcher(prefix);
        return matcher.matches() || matcher.hitEnd();
    }

    int format(int cone, int index) {
        if (noPolynomial(cone, index)) {
            return -1;
        }
        int corner = cone(cone).corners.get(index);
        StringBuilder text = new StringBuilder(term(1, corner / 10, corner % 10));
        int[][] polynomial = cone(cone).polynomials.get(index);
        for (int i = 8; i >= 0; i--) {
            for (int j = 8; j >= 0; j--) {
                if (polynomial[i][j] != 0 && 10 * i + j != corner) {
                    text.append('+').append(term(polynomial[i][j], i, j));
                }
            }
        }
        output = text.toString();
        return output.length();
    }

    private static String term(int c, int i, int j) {
        return c + (i == 0 ? "" : "x" + i) + (j == 0 ? "" : "y" + j);
    }

    int outputByte(int position) {
        return outside(0, output.length() - 1, position) ? -1 : output.charAt(position);
    }

    // ---- slots

    int newArray(int slot, int length) {
        if (outside(0, 3, slot)) {
            return -1;
        }
        if (length > 20) {
            return -2;
        }
        if (length < 0) {
            return -8;
        }
        slots[slot] = new int[length];
        return 1;
    }

    private int arrayError(int slot, int index) {
        if (slots[slot] == null) {
            return -6;
        }
        if (!(slots[slot] instanceof int[])) {
            return -7;
        }
        return outside(0, ((int[]) slots[slot]).length - 1, index) ? -1 : 0;
    }

    int setElement(int slot, int index, int value) {
        if (outside(0, 3, slot)) {
            return -1;
        }
        if (outside(0, 9999, value)) {
            return -2;
        }
        if (arrayError(slot, index) != 0) {
            return arrayError(slot, index);
        }
        int[] array = (int[]) slots[slot];
        int previous = array[index];
        array[index] = value;
        return previous;
    }

    int element(int slot, int index) {
        if (outside(0, 3, slot)) {
            return -1;
        }
        return arrayError(slot, index) != 0 ? arrayError(slot, index) : ((int[]) slots[slot])[index];
    }

    int storePolynomial(int slot) {
        if (outside(0, 3, slot)) {
            return -1;
        }
        slots[slot] = copy(current);
        return terms(current);
    }

    int loadPolynomial(int slot) {
        if (outside(0, 3, slot)) {
            return -1;
        }
        if (!(slots[slot] instanceof int[][])) {
            return slots[slot] == null ? -6 : -7;
        }
        current = copy((int[][]) slots[slot]);
        for (int[] row : current) {
            for (int j = 0; j <= 8; j++) {
                row[j] %= p;
            }
        }
        return terms(current);
    }

    int clearSlot(int slot) {
        if (outside(0, 3, slot)) {
            return -1;
        }
        int kind = slots[slot] == null ? 0 : slots[slot] instanceof int[] ? 1 : 2;
        slots[slot] = null;
        return kind;
    }

    int firstDifference(int slot, int cone) {
        if (outside(0, 3, slot) || cone(cone) == null) {
            return -1;
        }
        if (!(slots[slot] instanceof int[])) {
            return slots[slot] == null ? -6 : -7;
        }
        int[] array = (int[]) slots[slot];
        for (int k = 0; k < array.length; k++) {
            if (k > 8 || array[k] != cone(cone).height(k)) {
                return k;
            }
        }
        return -5;
    }

    // ---- snapshot

    int saveSnapshot() {
        savedPrime = p;
        savedPoints = new ArrayList<>(points);
        savedPolynomial = copy(current);
        return points.size();
    }

    int restoreSnapshot() {
        if (savedPoints == null) {
            return -5;
        }
        p = savedPrime;
        points = new ArrayList<>(savedPoints);
        current = copy(savedPolynomial);
        return points.size();
    }
}
