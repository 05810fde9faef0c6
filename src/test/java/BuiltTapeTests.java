import java.util.ArrayList;
import java.util.Collections;
import java.util.List;
import java.util.TreeSet;

/**
 * Promises 25 and 26: tapes as write() never makes them, built part by part: rows that are packed or not, lists with
 * bytes that are not used, LENGTHS of other CODES and with detours, and one part wrong now and then. What read()
 * answers of each, and what it leaves, is compared with the plain model.
 */
public final class BuiltTapeTests {
    private static final int TAPES = 1500;
    private static final int MOST_TAPE = 3000;
    private static final int LONGEST = 12;
    private final Due due = new Due();
    private final int[] met = new int[13];
    private long seed = 20261116L;

    public static void main(String[] args) {
        BuiltTapeTests tests = new BuiltTapeTests();
        for (int number = 0; number < TAPES; number++) {
            tests.readTape(number, tests.someTape(tests.someRow()));
        }
        for (int fault = 0; fault <= 12; fault++) {
            tests.due.isTrue("enough tapes with FAULT " + fault + " (0: without one)", tests.met[fault] >= 5);
        }
        tests.due.end("BuiltTapeTests");
    }

    private int pick(int below) {
        seed = seed * 6364136223846793005L + 1442695040888963407L;
        return (int) Long.remainderUnsigned(seed >>> 33, below);
    }

    private int pickOf(int... values) {
        return values[pick(values.length)];
    }

    private boolean onceIn(int times) {
        return pick(times) == 0;
    }

    // ---- rows that the tape gives back

    private List<Integer> someRow() {
        int first = pick(256);
        int kinds = pickOf(1, 2, 3, 8, 256);
        switch (pick(6)) {
            case 0:
                return loose(first, kinds, pickOf(1, 2, 3, 4, 5, 6, 7, 40, 600, 601));
            case 1:
                return counted(first, kinds);
            case 2:
                return repeated(loose(first, kinds, 1 + pick(9)), 1 + pick(30));
            default:
                return nearlyPacked(first, kinds);
        }
    }

    private int someByte(int first, int kinds) {
        return first + pick(kinds) & 255;
    }

    private List<Integer> loose(int first, int kinds, int n) {
        List<Integer> row = new ArrayList<>();
        for (int i = 0; i < n; i++) {
            row.add(someByte(first, kinds));
        }
        return row;
    }

    /** Four like ones with a count, some times: as told, too large, or too many bytes in all. */
    private List<Integer> counted(int first, int kinds) {
        List<Integer> row = new ArrayList<>();
        int times = 1 + pick(5);
        for (int i = 0; i < times; i++) {
            row.addAll(Collections.nCopies(4, someByte(first, kinds)));
            row.add(pickOf(0, 1, 100, 251, 252));
        }
        return row;
    }

    private static List<Integer> repeated(List<Integer> part, int times) {
        List<Integer> row = new ArrayList<>();
        for (int i = 0; i < times; i++) {
            row.addAll(part);
        }
        return row;
    }

    private List<Integer> nearlyPacked(int first, int kinds) {
        List<Integer> block = new ArrayList<>();
        int most = pickOf(0, 1, 5, 30, 100, 600);
        while (block.size() < most) {
            block.addAll(Collections.nCopies(pickOf(1, 1, 2, 3, 4, 5, 6, 9, 255, 256, 300), someByte(first, kinds)));
        }
        List<Integer> row = PlainModel.packOf(block.subList(0, Math.min(600, block.size())));
        if (row.isEmpty() || !onceIn(3)) {
            return row;
        }
        switch (pick(3)) {
            case 0 -> row.remove(row.size() - 1);
            case 1 -> row.set(pick(row.size()), pickOf(0, 250, 251, 252, 255, first));
            default -> row.add(pick(row.size() + 1), someByte(first, kinds));
        }
        return row;
    }

    // ---- tapes of them

    private String someTape(List<Integer> row) {
        int n = row.size();
        List<Integer> last = n == 0 ? row : PlainModel.lastOf(row);
        if (onceIn(30)) {
            last = new ArrayList<>(last);
            Collections.reverse(last);
        }
        int origin = onceIn(30) ? pick(n + 2) : n == 0 ? 0 : PlainModel.placeOf(row, 0);
        int check = PlainModel.checkOf(PlainModel.unpackOf(row)) ^ (onceIn(25) ? 1 << pick(32) : 0);
        int told = onceIn(40) ? Math.max(0, n + pickOf(-2, -1, 1, 2, 300, 900)) : n;
        String bits = PlainModel.headBits(told, origin, check) + (n == 0 ? "" : body(last));
        return spoiledEnd(bits + "0".repeat((8 - bits.length() % 8) % 8));
    }

    private String spoiledEnd(String bits) {
        switch (pick(24)) {
            case 0:
                return bits.substring(0, bits.length() - 8 * (1 + pick(bits.length() / 8)));
            case 1:
                return bits + PlainModel.bitsOf(pickOf(0, 1, 128), 8);
            case 2:
                return turned(bits, bits.length() - 1);
            case 3:
                return turned(bits, pick(bits.length()));
            default:
                return bits;
        }
    }

    private static String turned(String bits, int place) {
        char bit = bits.charAt(place) == '0' ? '1' : '0';
        return bits.substring(0, place) + bit + bits.substring(place + 1);
    }

    private String body(List<Integer> last) {
        TreeSet<Integer> list = new TreeSet<>(last);
        if (onceIn(6)) {
            list.addAll(loose(0, 256, 1 + pick(20)));
        }
        List<Integer> symbols = symbolsOver(list, last);
        if (onceIn(25)) {
            symbols.add(pick(symbols.size()), pick(list.size() + 2));
        }
        int[] lengths = onceIn(2) ? PlainModel.lengthsOf(symbols) : otherLengths(list.size() + 2);
        String[] codes = PlainModel.codesOf(lengths);
        StringBuilder bits = new StringBuilder(listBits(list));
        bits.append(lengthBits(lengths));
        for (int symbol : symbols) {
            bits.append(codes[symbol]);
        }
        return bits.toString();
    }

    private String listBits(TreeSet<Integer> list) {
        String bits = PlainModel.listBits(list);
        if (onceIn(60)) {
            return "0".repeat(16) + bits.substring(16);
        }
        // The last sixteenth of those that are told has no byte.
        return onceIn(60) ? bits.substring(0, bits.length() - 16) + "0".repeat(16) : bits;
    }

    private static List<Integer> symbolsOver(TreeSet<Integer> list, List<Integer> last) {
        List<Integer> line = new ArrayList<>(list);
        List<Integer> symbols = new ArrayList<>();
        int noughts = 0;
        for (Integer b : last) {
            int place = line.indexOf(b);
            if (place == 0) {
                noughts++;
            } else {
                addDigits(symbols, noughts);
                noughts = 0;
                symbols.add(place + 1);
                line.remove(place);
                line.add(0, b);
            }
        }
        addDigits(symbols, noughts);
        symbols.add(list.size() + 1);
        return symbols;
    }

    private static void addDigits(List<Integer> symbols, int noughts) {
        int left = noughts;
        while (left > 0) {
            int digit = left % 2 == 1 ? 1 : 2;
            symbols.add(digit - 1);
            left = (left - digit) / 2;
        }
    }

    /** Any LENGTHS by which each row of bits begins with just one CODE: again and again one CODE becomes two. */
    private int[] otherLengths(int count) {
        List<Integer> lengths = new ArrayList<>(List.of(0));
        while (lengths.size() < count) {
            int i = pick(lengths.size());
            if (lengths.get(i) < LONGEST) {
                int longer = lengths.remove(i) + 1;
                lengths.add(longer);
                lengths.add(pick(lengths.size() + 1), longer);
            }
        }
        return lengths.stream().mapToInt(length -> length).toArray();
    }

    private String lengthBits(int[] lengths) {
        int wrong = onceIn(20) ? pick(lengths.length) : -1;
        int hand = onceIn(30) ? pick(16) : lengths[0];
        boolean detours = onceIn(5);
        StringBuilder bits = new StringBuilder(PlainModel.bitsOf(hand, 4));
        for (int symbol = 0; symbol < lengths.length; symbol++) {
            if (detours && onceIn(3)) {
                bits.append(detour(hand));
            }
            // From 0 to 13: now and then a LENGTH that is none.
            int length = symbol == wrong ? pick(14) : lengths[symbol];
            bits.append((length > hand ? "10" : "11").repeat(Math.abs(length - hand))).append('0');
            hand = length;
        }
        return bits.toString();
    }

    private String detour(int hand) {
        boolean up = onceIn(40) || hand < LONGEST;
        return up ? "1011" : "1110";
    }

    // ---- readings

    private void readTape(int number, String bits) {
        SortTransform made = new SortTransform();
        PlainModel model = new PlainModel();
        if (onceIn(2)) {
            int n = 1 + pick(600);
            due.is(number + ": fill(" + n + ", 9)", made.fill(n, 9), model.fill(n, 9));
        }
        List<Integer> bytes = PlainModel.bytesOf(bits);
        int most = Math.min(bytes.size(), MOST_TAPE);
        for (int i = 0; i < most; i++) {
            due.is(number + ": tape(" + bytes.get(i) + ", 1)", made.tape(bytes.get(i), 1), model.tape(bytes.get(i), 1));
        }
        int answer = model.read();
        met[answer < 0 ? -10 - answer : 0]++;
        due.is(number + ": read()", made.read(), answer);
        due.is(number + ": faultAt()", made.faultAt(), model.faultAt());
        due.is(number + ": check()", made.check(), model.check());
        for (int i = 0; i <= model.size(); i++) {
            due.is(number + ": octet(" + i + ")", made.octet(i), model.octet(i));
        }
        due.is(number + ": cut(0) of an empty tape", made.cut(0), 0);
    }
}
