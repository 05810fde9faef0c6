import java.util.ArrayList;
import java.util.Arrays;
import java.util.HashMap;
import java.util.HashSet;
import java.util.List;
import java.util.Map;
import java.util.Set;
import java.util.TreeSet;

/**
 * The document once more, word by word and without regard to speed or room: what SortTransform's answers are
 * compared with. Streams are texts of '0' and '1' here, turns are whole rows, codes are texts.
 */
final class PlainModel {
    private static final int BAD = -1, NONE = -2, FULL = -3;

    private List<Integer> block = new ArrayList<>();
    private List<Integer> out = new ArrayList<>();
    private List<Integer> tape = new ArrayList<>();
    private int faultPlace = NONE;

    /** A FAULT, thrown where it is met. */
    private static final class Fault extends RuntimeException {
        private static final long serialVersionUID = 1L;
        final int number;
        final int place;

        Fault(int number, int place) {
            this.number = number;
            this.place = place;
        }
    }

    // ---- bytes

    private static int append(List<Integer> to, int most, long row, int n) {
        if (n < 1 || n > 8) {
            return BAD;
        }
        if (to.size() + n > most) {
            return FULL;
        }
        for (int i = 0; i < n; i++) {
            to.add((int) (row >> 8 * i & 255L));
        }
        return to.size();
    }

    int feed(long row, int n) {
        return append(block, 600, row, n);
    }

    int fill(int n, int b) {
        if (n < 1 || n > 600 || b < 0 || b > 255) {
            return BAD;
        }
        if (block.size() + n > 600) {
            return FULL;
        }
        for (int i = 0; i < n; i++) {
            block.add(b);
        }
        return block.size();
    }

    int clear() {
        int had = block.size();
        block.clear();
        return had;
    }

    private static int at(List<Integer> row, int i) {
        return i < 0 || i >= row.size() ? NONE : row.get(i);
    }

    int octet(int i) {
        return at(block, i);
    }

    static List<Integer> packOf(List<Integer> row) {
        List<Integer> to = new ArrayList<>();
        int i = 0;
        while (i < row.size()) {
            int b = row.get(i);
            int end = i;
            while (end < row.size() && row.get(end) == b && end - i < 255) {
                end++;
            }
            for (int k = 0; k < Math.min(4, end - i); k++) {
                to.add(b);
            }
            if (end - i >= 4) {
                to.add(end - i - 4);
            }
            i = end;
        }
        return to;
    }

    /** What a row tells, if each four like bytes have a count behind them; packed as told or not. */
    static List<Integer> unpackOf(List<Integer> packed) {
        List<Integer> row = new ArrayList<>();
        int i = 0;
        while (i < packed.size()) {
            int b = packed.get(i);
            int end = i;
            while (end < packed.size() && end - i < 4 && packed.get(end) == b) {
                end++;
            }
            int many = end - i;
            if (many == 4 && end < packed.size()) {
                many += packed.get(end);
                end++;
            }
            for (int k = 0; k < many; k++) {
                row.add(b);
            }
            i = end;
        }
        return row;
    }

    int pack() {
        return packOf(block).size();
    }

    int packed(int i) {
        return at(packOf(block), i);
    }

    // ---- turns

    static int[][] turnsOf(List<Integer> row) {
        int n = row.size();
        int[][] turns = new int[n][n + 1];
        for (int p = 0; p < n; p++) {
            for (int j = 0; j < n; j++) {
                turns[p][j] = row.get((p + j) % n);
            }
            turns[p][n] = p;
        }
        Arrays.sort(turns, Arrays::compare);
        return turns;
    }

    static List<Integer> lastOf(List<Integer> row) {
        List<Integer> last = new ArrayList<>();
        for (int[] turn : turnsOf(row)) {
            last.add(turn[row.size() - 1]);
        }
        return last;
    }

    static int placeOf(List<Integer> row, int p) {
        int[][] turns = turnsOf(row);
        for (int k = 0; k < turns.length; k++) {
            if (turns[k][row.size()] == p) {
                return k;
            }
        }
        return NONE;
    }

    int order(int k) {
        return k < 0 || k >= block.size() ? NONE : turnsOf(block)[k][block.size()];
    }

    int last(int k) {
        return at(lastOf(block), k);
    }

    int origin() {
        return placeOf(block, 0);
    }

    int rounds() {
        int n = block.size();
        if (n == 0) {
            return NONE;
        }
        int r = 0;
        while (beginnings(1 << r) < beginnings(n)) {
            r++;
        }
        return r;
    }

    private int beginnings(int length) {
        Set<List<Integer>> all = new HashSet<>();
        for (int p = 0; p < block.size(); p++) {
            List<Integer> beginning = new ArrayList<>();
            for (int j = 0; j < length; j++) {
                beginning.add(block.get((p + j) % block.size()));
            }
            all.add(beginning);
        }
        return all.size();
    }

    int start(int m, int i) {
        if (m < 1 || m > 64 || i < 0 || i >= m) {
            return BAD;
        }
        return block.isEmpty() ? NONE : placeOf(block, i * block.size() / m);
    }

    int steps(long bytes, int n, int what) {
        if (n < 1 || n > 8 || what < 0 || what > 2) {
            return BAD;
        }
        List<Integer> found = new ArrayList<>();
        int[][] turns = turnsOf(block);
        for (int k = 0; k < turns.length && n <= block.size(); k++) {
            long begins = 0;
            for (int j = 0; j < n; j++) {
                begins = begins << 8 | turns[k][j];
            }
            if (begins == (n == 8 ? bytes : bytes & (1L << 8 * n) - 1)) {
                found.add(k);
            }
        }
        if (what == 2) {
            return found.size();
        }
        if (found.isEmpty()) {
            return NONE;
        }
        return what == 0 ? found.get(0) : found.get(found.size() - 1) + 1;
    }

    private static List<Integer> nextOf(List<Integer> last) {
        List<Integer> next = new ArrayList<>();
        for (int k = 0; k < last.size(); k++) {
            next.add(k);
        }
        next.sort((a, b) -> last.get(a).equals(last.get(b)) ? a - b : last.get(a) - last.get(b));
        return next;
    }

    private static List<Integer> backOf(List<Integer> last, int origin) {
        List<Integer> next = nextOf(last);
        List<Integer> sorted = new ArrayList<>(last);
        sorted.sort(null);
        List<Integer> row = new ArrayList<>();
        int k = origin;
        for (int i = 0; i < last.size(); i++) {
            row.add(sorted.get(k));
            k = next.get(k);
        }
        return row;
    }

    private static boolean isRight(List<Integer> row, List<Integer> last, int origin) {
        return lastOf(row).equals(last) && (row.isEmpty() || placeOf(row, 0) == origin);
    }

    int back(int origin) {
        if (block.isEmpty()) {
            return NONE;
        }
        if (origin < 0 || origin >= block.size()) {
            return BAD;
        }
        List<Integer> last = block;
        block = backOf(last, origin);
        return isRight(block, last, origin) ? 1 : 0;
    }

    int ring(int k) {
        if (k < 0 || k >= block.size()) {
            return BAD;
        }
        List<Integer> next = nextOf(block);
        int length = 1;
        for (int at = next.get(k); at != k; at = next.get(at)) {
            length++;
        }
        return length;
    }

    // ---- symbols

    private static List<Integer> listOf(List<Integer> row) {
        return new ArrayList<>(new TreeSet<>(row));
    }

    static List<Integer> symbolsOf(List<Integer> row) {
        List<Integer> list = listOf(row);
        List<Integer> numbers = new ArrayList<>();
        for (Integer b : row) {
            int place = list.indexOf(b);
            numbers.add(place);
            list.remove(place);
            list.add(0, b);
        }
        List<Integer> symbols = new ArrayList<>();
        int i = 0;
        while (i < numbers.size()) {
            int z = 0;
            while (i + z < numbers.size() && numbers.get(i + z) == 0) {
                z++;
            }
            i += z;
            while (z > 0) {
                int digit = z % 2 == 1 ? 1 : 2;
                symbols.add(digit - 1);
                z = (z - digit) / 2;
            }
            if (i < numbers.size()) {
                symbols.add(numbers.get(i) + 1);
                i++;
            }
        }
        symbols.add(list.size() + 1);
        return symbols;
    }

    private static int[] weightsOf(List<Integer> symbols) {
        int[] weights = new int[symbols.get(symbols.size() - 1) + 1];
        for (int symbol : symbols) {
            weights[symbol]++;
        }
        for (int s = 0; s < weights.length; s++) {
            weights[s] = weights[s] == 0 ? 1 : weights[s];
        }
        return weights;
    }

    static int[] lengthsOf(List<Integer> symbols) {
        int[] weights = weightsOf(symbols);
        while (true) {
            int[] lengths = joined(weights);
            if (Arrays.stream(lengths).max().getAsInt() <= 12) {
                return lengths;
            }
            for (int s = 0; s < weights.length; s++) {
                weights[s] = weights[s] / 2 + 1;
            }
        }
    }

    static boolean isHalved(List<Integer> symbols) {
        return Arrays.stream(joined(weightsOf(symbols))).max().getAsInt() > 12;
    }

    private static int[] joined(int[] weights) {
        int[] lengths = new int[weights.length];
        List<TreeSet<Integer>> groups = new ArrayList<>();
        for (int s = 0; s < weights.length; s++) {
            groups.add(new TreeSet<>(Set.of(s)));
        }
        List<Integer> heavy = new ArrayList<>();
        for (int w : weights) {
            heavy.add(w);
        }
        while (groups.size() > 1) {
            int one = takeLightest(groups, heavy);
            TreeSet<Integer> first = groups.remove(one);
            int weight = heavy.remove(one);
            int two = takeLightest(groups, heavy);
            first.addAll(groups.remove(two));
            weight += heavy.remove(two);
            for (int s : first) {
                lengths[s]++;
            }
            groups.add(first);
            heavy.add(weight);
        }
        return lengths;
    }

    private static int takeLightest(List<TreeSet<Integer>> groups, List<Integer> heavy) {
        int best = 0;
        for (int g = 1; g < groups.size(); g++) {
            int by = Integer.compare(heavy.get(g), heavy.get(best));
            if (by < 0 || by == 0 && groups.get(g).first() < groups.get(best).first()) {
                best = g;
            }
        }
        return best;
    }

    static String[] codesOf(int[] lengths) {
        String[] codes = new String[lengths.length];
        String before = null;
        for (int length = 1; length <= 12; length++) {
            for (int s = 0; s < lengths.length; s++) {
                if (lengths[s] != length) {
                    continue;
                }
                String code = before == null ? "" : plusOne(before);
                while (code.length() < length) {
                    code += "0";
                }
                codes[s] = code;
                before = code;
            }
        }
        return codes;
    }

    private static String plusOne(String code) {
        return bitsOf(Integer.parseInt(code, 2) + 1, code.length());
    }

    int symbol(int i) {
        return at(symbolsOf(block), i);
    }

    int code(int symbol, int what) {
        int[] lengths = lengthsOf(symbolsOf(block));
        if (symbol < 0 || symbol >= lengths.length || what < 0 || what > 1) {
            return BAD;
        }
        return what == 0 ? lengths[symbol] : Integer.parseInt(codesOf(lengths)[symbol], 2);
    }

    int bits() {
        List<Integer> symbols = symbolsOf(block);
        int[] lengths = lengthsOf(symbols);
        return symbols.stream().mapToInt(s -> lengths[s]).sum();
    }

    // ---- streams

    static String bitsOf(long value, int width) {
        StringBuilder text = new StringBuilder();
        for (int i = width - 1; i >= 0; i--) {
            text.append((char) ('0' + (value >> i & 1)));
        }
        return text.toString();
    }

    static int checkOf(List<Integer> row) {
        long c = (1L << 32) - 1;
        for (int b : row) {
            c ^= (long) b << 24;
            for (int i = 0; i < 8; i++) {
                c *= 2;
                if (c >= 1L << 32) {
                    c = c - (1L << 32) ^ 79764919L;
                }
            }
        }
        return (int) ((1L << 32) - 1 - c);
    }

    static List<Integer> bytesOf(String bits) {
        List<Integer> bytes = new ArrayList<>();
        String whole = bits + "0".repeat((8 - bits.length() % 8) % 8);
        for (int i = 0; i < whole.length(); i += 8) {
            bytes.add(Integer.parseInt(whole.substring(i, i + 8), 2));
        }
        return bytes;
    }

    static String listBits(Set<Integer> list) {
        String sixteenths = "";
        String marks = "";
        for (int s = 0; s < 16; s++) {
            String these = "";
            for (int i = 0; i < 16; i++) {
                these += list.contains(16 * s + i) ? "1" : "0";
            }
            boolean some = these.contains("1");
            sixteenths += some ? "1" : "0";
            marks += some ? these : "";
        }
        return sixteenths + marks;
    }

    static String lengthBits(int[] lengths) {
        StringBuilder text = new StringBuilder(bitsOf(lengths[0], 4));
        int hand = lengths[0];
        for (int length : lengths) {
            text.append((length > hand ? "10" : "11").repeat(Math.abs(length - hand))).append('0');
            hand = length;
        }
        return text.toString();
    }

    static String headBits(int n, int origin, int check) {
        return bitsOf(21332, 16) + bitsOf(n, 16) + bitsOf(origin, 16) + bitsOf(check, 32);
    }

    /** The stream's part behind the head, of any LAST, right or not. */
    static String bodyBits(List<Integer> last) {
        List<Integer> symbols = symbolsOf(last);
        int[] lengths = lengthsOf(symbols);
        String[] codes = codesOf(lengths);
        StringBuilder text = new StringBuilder(listBits(new HashSet<>(last))).append(lengthBits(lengths));
        for (int s : symbols) {
            text.append(codes[s]);
        }
        return text.toString();
    }

    static String streamBits(List<Integer> row) {
        List<Integer> packed = packOf(row);
        if (packed.isEmpty()) {
            return headBits(0, 0, checkOf(row));
        }
        return headBits(packed.size(), placeOf(packed, 0), checkOf(row)) + bodyBits(lastOf(packed));
    }

    int write() {
        out = bytesOf(streamBits(block));
        return out.size();
    }

    int out(int i) {
        return at(out, i);
    }

    int tape(long row, int n) {
        return append(tape, 3000, row, n);
    }

    int take() {
        tape = new ArrayList<>(out);
        return tape.size();
    }

    int spoil(int i, int mask) {
        if (i < 0 || i >= tape.size() || mask < 0 || mask > 255) {
            return BAD;
        }
        tape.set(i, tape.get(i) ^ mask);
        return tape.get(i);
    }

    int cut(int n) {
        int had = tape.size();
        if (n < 0 || n > had) {
            return BAD;
        }
        tape = new ArrayList<>(tape.subList(0, n));
        return had;
    }

    int read() {
        List<Integer> from = tape;
        tape = new ArrayList<>();
        faultPlace = NONE;
        try {
            block = new Reading(from).all();
            return block.size();
        } catch (Fault fault) {
            faultPlace = fault.place;
            return -10 - fault.number;
        }
    }

    int faultAt() {
        return faultPlace;
    }

    int check() {
        return checkOf(block);
    }

    int size() {
        return block.size();
    }

    int tapeSize() {
        return tape.size();
    }

    /** One reading of a tape. */
    private static final class Reading {
        private final String bits;
        private int at;

        Reading(List<Integer> tape) {
            StringBuilder text = new StringBuilder();
            for (int b : tape) {
                text.append(bitsOf(b, 8));
            }
            bits = text.toString();
        }

        private String take(int width) {
            if (at + width > bits.length()) {
                throw new Fault(1, bits.length() / 8);
            }
            at += width;
            return bits.substring(at - width, at);
        }

        private int number(int width) {
            return (int) Long.parseLong(take(width), 2);
        }

        List<Integer> all() {
            if (number(16) != 21332) {
                throw new Fault(2, 0);
            }
            int n = number(16);
            if (n > 900) {
                throw new Fault(3, 2);
            }
            int origin = number(16);
            if (n == 0 ? origin != 0 : origin >= n) {
                throw new Fault(4, 4);
            }
            int check = number(32);
            List<Integer> last = n == 0 ? new ArrayList<>() : body(n);
            List<Integer> row = givenBack(last, origin, check);
            for (int i = at; i < bits.length(); i++) {
                if (i % 8 == 0 || bits.charAt(i) == '1') {
                    throw new Fault(12, i / 8);
                }
            }
            return row;
        }

        private List<Integer> givenBack(List<Integer> last, int origin, int check) {
            List<Integer> packed = backOf(last, origin);
            if (!isRight(packed, last, origin)) {
                throw new Fault(9, 4);
            }
            List<Integer> row = unpackOf(packed);
            if (row.size() > 600 || !packOf(row).equals(packed)) {
                throw new Fault(10, 2);
            }
            if (checkOf(row) != check) {
                throw new Fault(11, 6);
            }
            return row;
        }

        private List<Integer> body(int n) {
            List<Integer> list = list();
            int lengthsAt = at / 8;
            int[] lengths = lengths(list.size() + 2);
            Map<String, Integer> byCode = new HashMap<>();
            if (!isWhole(lengths)) {
                throw new Fault(7, lengthsAt);
            }
            String[] codes = codesOf(lengths);
            for (int s = 0; s < codes.length; s++) {
                byCode.put(codes[s], s);
            }
            List<Integer> numbers = new ArrayList<>();
            int z = 0;
            int worth = 1;
            while (true) {
                int from = at / 8;
                String code = take(1);
                while (!byCode.containsKey(code)) {
                    code += take(1);
                }
                int s = byCode.get(code);
                if (s < 2) {
                    z += worth * (s + 1);
                    worth *= 2;
                } else {
                    for (; z > 0; z--) {
                        numbers.add(0);
                    }
                    worth = 1;
                    if (s == codes.length - 1) {
                        if (numbers.size() < n) {
                            throw new Fault(8, from);
                        }
                        return rowOf(numbers, list);
                    }
                    numbers.add(s - 1);
                }
                if (numbers.size() + z > n) {
                    throw new Fault(8, from);
                }
            }
        }

        private static List<Integer> rowOf(List<Integer> numbers, List<Integer> list) {
            List<Integer> row = new ArrayList<>();
            for (int place : numbers) {
                Integer b = list.remove(place);
                row.add(b);
                list.add(0, b);
            }
            return row;
        }

        private List<Integer> list() {
            List<Integer> list = new ArrayList<>();
            int from = at / 8;
            String sixteenths = take(16);
            if (!sixteenths.contains("1")) {
                throw new Fault(5, from);
            }
            for (int s = 0; s < 16; s++) {
                if (sixteenths.charAt(s) == '0') {
                    continue;
                }
                from = at / 8;
                String marks = take(16);
                if (!marks.contains("1")) {
                    throw new Fault(5, from);
                }
                for (int i = 0; i < 16; i++) {
                    if (marks.charAt(i) == '1') {
                        list.add(16 * s + i);
                    }
                }
            }
            return list;
        }

        private int[] lengths(int count) {
            int[] lengths = new int[count];
            int from = at / 8;
            int hand = inRange(number(4), from);
            for (int s = 0; s < count; s++) {
                from = at / 8;
                while (take(1).equals("1")) {
                    hand = inRange(take(1).equals("0") ? hand + 1 : hand - 1, from);
                }
                lengths[s] = hand;
            }
            return lengths;
        }

        private static int inRange(int length, int from) {
            if (length < 1 || length > 12) {
                throw new Fault(6, from);
            }
            return length;
        }

        /** Each code of a length L takes its part, one of 2^L, of all rows of bits; together that must be all. */
        private static boolean isWhole(int[] lengths) {
            double parts = 0;
            for (int length : lengths) {
                parts += Math.pow(0.5, length);
            }
            return parts == 1.0;
        }
    }
}
