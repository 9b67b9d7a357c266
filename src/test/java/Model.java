import java.math.BigInteger;
import java.util.ArrayList;
import java.util.HashMap;
import java.util.List;
import java.util.Map;
import java.util.TreeMap;

/** The document told again, slowly and in other ways than the class: what its answers are checked against. */
final class Model {
    private static final BigInteger WORD = BigInteger.ONE.shiftLeft(64);
    private static final String[][] SERVED = {
        {"AAB", "ABA", "BAA", "BBA", "BAB", "ABB"},
        {"AB", "BA"},
        {"AAB", "ABA", "BAB", "BBA"},
    };

    private record Asked(int kind, int samples, Map<Integer, Boolean> answers, Map<Integer, Map<Integer, Integer>> ranks) {
    }

    private final BigInteger seed;
    private final List<TreeMap<Integer, Boolean>> tasters = new ArrayList<>();
    private final List<Asked> tests = new ArrayList<>();

    Model(long seed) {
        this.seed = BigInteger.valueOf(seed);
    }

    int taster() {
        if (tasters.size() == 26) {
            return -2;
        }
        tasters.add(new TreeMap<>());
        return tasters.size() - 1;
    }

    int test(int kind, int samples) {
        boolean good = kind == 0 && samples == 3 || (kind == 1 || kind == 2) && samples == 2
            || kind == 3 && samples > 1 && samples < 6;
        if (!good) {
            return -1;
        }
        if (tests.size() == 40) {
            return -2;
        }
        tests.add(new Asked(kind, samples, new HashMap<>(), new HashMap<>()));
        return tests.size() - 1;
    }

    private Asked testAt(int test) {
        return test >= 0 && test < tests.size() ? tests.get(test) : null;
    }

    private boolean isTaster(int taster) {
        return taster >= 0 && taster < tasters.size();
    }

    static List<String> rows(int samples) {
        List<String> rows = List.of("");
        for (int place = 0; place < samples; place++) {
            List<String> longer = new ArrayList<>();
            for (String row : rows) {
                for (int sample = 0; sample < samples; sample++) {
                    if (row.indexOf('0' + sample) < 0) {
                        longer.add(row + sample);
                    }
                }
            }
            rows = longer;
        }
        return rows;
    }

    private String served(int test, int taster) {
        Asked asked = tests.get(test);
        List<String> row = new ArrayList<>(asked.kind == 3 ? rows(asked.samples) : List.of(SERVED[asked.kind]));
        int block = taster / row.size();
        BigInteger h = seed.add(BigInteger.valueOf(1000003L * test + 7919L * block)).mod(WORD);
        for (int i = row.size() - 1; i > 0; i--) {
            h = h.multiply(new BigInteger("6364136223846793005")).add(new BigInteger("1442695040888963407")).mod(WORD);
            int other = h.shiftRight(33).mod(BigInteger.valueOf(i + 1)).intValue();
            java.util.Collections.swap(row, i, other);
        }
        return row.get(taster % row.size());
    }

    int order(int test, int taster, int k) {
        if (testAt(test) == null || !isTaster(taster)) {
            return -1;
        }
        String served = served(test, taster);
        if (k < 0 || k >= served.length()) {
            return -1;
        }
        return served.charAt(k) - (tests.get(test).kind == 3 ? '0' : 'A');
    }

    boolean answer(int test, int taster, int choice) {
        Asked asked = testAt(test);
        if (asked == null || asked.kind == 3 || !isTaster(taster) || asked.answers.containsKey(taster)) {
            return false;
        }
        if (choice < 0 || choice > (asked.kind == 0 ? 2 : 1)) {
            return false;
        }
        asked.answers.put(taster, choice == Due.rightPlace(served(test, taster), asked.kind));
        return true;
    }

    private static long part(BigInteger above, BigInteger below, int part) {
        BigInteger divisor = above.gcd(below);
        return (part == 0 ? above : below).divide(divisor).longValueExact();
    }

    static BigInteger choose(int n, int r) {
        BigInteger product = BigInteger.ONE;
        for (int i = 1; i <= r; i++) {
            product = product.multiply(BigInteger.valueOf(n - r + i)).divide(BigInteger.valueOf(i));
        }
        return product;
    }

    static BigInteger atLeast(int rights, int answers, int places) {
        BigInteger sum = BigInteger.ZERO;
        for (int r = rights; r <= answers; r++) {
            sum = sum.add(choose(answers, r).multiply(BigInteger.valueOf(places - 1).pow(answers - r)));
        }
        return sum;
    }

    private static int rights(Asked asked) {
        return (int) asked.answers.values().stream().filter(rightly -> rightly).count();
    }

    long chance(int test, int part) {
        Asked asked = testAt(test);
        if (asked == null || asked.answers.isEmpty() || part < 0 || part > 1) {
            return -1;
        }
        int places = asked.kind == 0 ? 3 : 2;
        int answers = asked.answers.size();
        return part(atLeast(rights(asked), answers, places), BigInteger.valueOf(places).pow(answers), part);
    }

    int right(int test) {
        Asked asked = testAt(test);
        return asked == null || asked.kind == 3 ? -1 : rights(asked);
    }

    boolean rank(int test, int taster, int sample, int r) {
        Asked asked = testAt(test);
        if (asked == null || asked.kind != 3 || !isTaster(taster) || sample < 0 || sample >= asked.samples) {
            return false;
        }
        Map<Integer, Integer> given = asked.ranks.computeIfAbsent(taster, any -> new HashMap<>());
        if (r < 1 || r > asked.samples || given.containsKey(sample) || given.containsValue(r)) {
            return false;
        }
        given.put(sample, r);
        return true;
    }

    long permuted(int test, int part) {
        Asked asked = testAt(test);
        if (asked == null || asked.kind != 3 || part < 0 || part > 1) {
            return -1;
        }
        int sum = 0;
        TreeMap<Integer, BigInteger> sums = new TreeMap<>(Map.of(0, BigInteger.ONE));
        int rankers = 0;
        for (Map<Integer, Integer> given : asked.ranks.values()) {
            if (given.size() == asked.samples) {
                rankers++;
                sum += given.get(0);
                sums = withOneMore(sums, asked.samples);
            }
        }
        if (rankers == 0) {
            return -1;
        }
        double middle = rankers * (asked.samples + 1) / 2.0;
        BigInteger ways = BigInteger.ZERO;
        for (Map.Entry<Integer, BigInteger> other : sums.entrySet()) {
            if (Math.abs(other.getKey() - middle) >= Math.abs(sum - middle)) {
                ways = ways.add(other.getValue());
            }
        }
        return part(ways, BigInteger.valueOf(asked.samples).pow(rankers), part);
    }

    private static TreeMap<Integer, BigInteger> withOneMore(TreeMap<Integer, BigInteger> sums, int samples) {
        TreeMap<Integer, BigInteger> more = new TreeMap<>();
        for (Map.Entry<Integer, BigInteger> entry : sums.entrySet()) {
            for (int r = 1; r <= samples; r++) {
                more.merge(entry.getKey() + r, entry.getValue(), BigInteger::add);
            }
        }
        return more;
    }

    double threshold(int taster) {
        if (!isTaster(taster)) {
            return -1;
        }
        TreeMap<Integer, Boolean> told = tasters.get(taster);
        if (told.isEmpty()) {
            return 0;
        }
        if (!told.lastEntry().getValue()) {
            return 2 * strength(told.lastKey());
        }
        for (int k : told.keySet()) {
            if (!told.tailMap(k).containsValue(false)) {
                Integer below = told.lowerKey(k);
                return below == null ? strength(k) / 2 : (strength(k) + strength(below)) / 2;
            }
        }
        throw new IllegalStateException("the highest step told was found");
    }

    private static double strength(int k) {
        return Math.pow(2, k) / 8;
    }

    boolean level(int taster, int k, boolean found) {
        if (!isTaster(taster) || k < 0 || k > 15) {
            return false;
        }
        tasters.get(taster).put(k, found);
        return true;
    }

    boolean out(int taster) {
        int answers = 0;
        int rights = 0;
        for (Asked asked : tests) {
            if (asked.answers.containsKey(taster)) {
                answers++;
                rights += asked.answers.get(taster) ? 1 : 0;
            }
        }
        return answers >= 5 && 3 * rights < answers;
    }

    int size(int kind, long above, long below) {
        if (kind < 0 || kind > 2 || above < 1 || below < 1) {
            return -1;
        }
        BigInteger places = BigInteger.valueOf(kind == 0 ? 3 : 2);
        for (int count = 1; count <= 26; count++) {
            if (places.pow(count).multiply(BigInteger.valueOf(above)).compareTo(BigInteger.valueOf(below)) >= 0) {
                return count;
            }
        }
        return -1;
    }

    /** -3 where the class has to throw. */
    int row(int k) {
        if (k < 1 || k > 26) {
            return -3;
        }
        for (int rights = 0; rights <= k; rights++) {
            if (atLeast(rights, k, 3).multiply(BigInteger.valueOf(20)).compareTo(BigInteger.valueOf(3).pow(k)) <= 0) {
                return rights;
            }
        }
        return k + 1;
    }
}
