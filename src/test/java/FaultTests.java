import java.util.ArrayList;
import java.util.Collections;
import java.util.List;
import java.util.Set;
import java.util.TreeSet;

/** Promises 25 and 26: tapes built bit by bit, each with the FAULT that its reading meets first and with its place. */
public final class FaultTests {
    private static final int NONE = -2;
    private final Due due = new Due();

    public static void main(String[] args) {
        FaultTests tests = new FaultTests();
        tests.noFault();
        tests.tapeEnds();
        tests.head();
        tests.list();
        tests.lengths();
        tests.wholeCodes();
        tests.symbols();
        tests.notRight();
        tests.notPacked();
        tests.check();
        tests.rest();
        tests.due.end("FaultTests");
    }

    private static SortTransform tapeOf(String bits) {
        SortTransform x = new SortTransform();
        x.fill(3, 'k');
        for (int b : PlainModel.bytesOf(bits)) {
            x.tape(b, 1);
        }
        return x;
    }

    private void meets(String what, String bits, int fault, int place) {
        SortTransform x = tapeOf(bits);
        due.is(what + ": read()", x.read(), -10 - fault);
        due.is(what + ": faultAt()", x.faultAt(), place);
        due.is(what + ": the block stays", x.clear(), 3);
        due.is(what + ": the tape is empty", x.cut(0), 0);
    }

    private void reads(String what, String bits, List<Integer> row) {
        SortTransform x = tapeOf(bits);
        due.is(what + ": read()", x.read(), row.size());
        due.is(what + ": faultAt()", x.faultAt(), NONE);
        for (int i = 0; i < row.size(); i++) {
            due.is(what + ": octet(" + i + ")", x.octet(i), row.get(i));
        }
    }

    private static List<Integer> row(String text) {
        List<Integer> row = new ArrayList<>();
        for (char b : text.toCharArray()) {
            row.add((int) b);
        }
        return row;
    }

    private static List<Integer> many(int n, int b) {
        return new ArrayList<>(Collections.nCopies(n, b));
    }

    private static List<Integer> join(List<Integer> one, List<Integer> other) {
        List<Integer> both = new ArrayList<>(one);
        both.addAll(other);
        return both;
    }

    private static int originOf(List<Integer> packed) {
        int[][] turns = PlainModel.turnsOf(packed);
        for (int k = 0; k < turns.length; k++) {
            if (turns[k][packed.size()] == 0) {
                return k;
            }
        }
        return NONE;
    }

    /** The stream of a row that is taken for PACKED, whatever it unpacks to. */
    private static String streamOf(List<Integer> packed, int check) {
        return PlainModel.headBits(packed.size(), originOf(packed), check)
                + PlainModel.bodyBits(PlainModel.lastOf(packed));
    }

    private static String head(int n, int origin) {
        return PlainModel.headBits(n, origin, 0);
    }

    private static String bits(int value, int width) {
        return PlainModel.bitsOf(value, width);
    }

    private static String list(int... bytes) {
        Set<Integer> list = new TreeSet<>();
        for (int b : bytes) {
            list.add(b);
        }
        return PlainModel.listBits(list);
    }

    private void noFault() {
        for (String text : new String[] {"", "a", "aaaa", "abab", "banana", "aaaaaabbbbb", "\u0000\u00ff\u0000\u0000"}) {
            reads("good " + text, PlainModel.streamBits(row(text)), row(text));
        }
        for (int n : new int[] {255, 256, 259, 510, 511, 600}) {
            reads("good " + n, PlainModel.streamBits(many(n, 9)), many(n, 9));
        }
        List<Integer> most = new ArrayList<>();
        for (int i = 0; i < 150; i++) {
            most.addAll(many(4, i));
        }
        reads("good 750", PlainModel.streamBits(most), most);
        List<Integer> countLike = join(many(9, 9), many(3, 5));
        reads("bytes like the count ahead of them", PlainModel.streamBits(countLike), countLike);
        List<Integer> nextLike = join(many(9, 9), many(8, 5));
        reads("a run like the count ahead of it", PlainModel.streamBits(nextLike), nextLike);
        twelveBits();
        // A list with a byte that is not used, lengths on a longer way, and lengths by no weights: no FAULT tells of these.
        int check = PlainModel.checkOf(row("a"));
        String unused = PlainModel.headBits(1, 0, check) + list('a', 'b') + bits(2, 4) + "0" + "0" + "0" + "0" + "00" + "11";
        reads("a byte not used", unused, row("a"));
        String detour = PlainModel.headBits(1, 0, check) + list('a') + bits(1, 4) + "0" + "1010110" + "0" + "0" + "11";
        reads("a longer way", detour, row("a"));
        String twelve = PlainModel.headBits(1, 0, check) + list('a') + bits(12, 4) + "11".repeat(11) + "0"
                + "10".repeat(11) + "11".repeat(10) + "0" + "0" + "0" + "11";
        reads("12 on the way", twelve, row("a"));
    }

    /** Codes of all lengths to 12: 0, 10, 110 .. and the last two of 12 bits, one of which is SYMBOL 0's or the END's. */
    private void twelveBits() {
        int check = PlainModel.checkOf(row("a"));
        String ahead = PlainModel.headBits(1, 0, check) + list('a', 'b', 'c', 'd', 'e', 'f', 'g', 'h', 'i', 'j', 'k');
        String rising = ahead + bits(1, 4) + "0" + "100".repeat(11) + "0";
        reads("lengths 1 to 12 and 12", rising + "0" + "1".repeat(12), row("a"));
        meets("lengths 1 to 12", ahead + bits(1, 4) + "0" + "100".repeat(11) + "110", 7, 14);
        String falling = ahead + bits(12, 4) + "0" + "0" + "110".repeat(11);
        reads("lengths 12 and 12 to 1", falling + "1".repeat(11) + "0" + "0", row("a"));
    }

    private void tapeEnds() {
        String good = PlainModel.streamBits(row("mississippi, aaaaaaaa"));
        int size = PlainModel.bytesOf(good).size();
        for (int n = 0; n < size; n++) {
            meets("cut at " + n, good.substring(0, 8 * n), 1, n);
        }
        String lengths = head(3, 0) + list('a') + bits(12, 4);
        meets("ends in the lengths, behind a 1", lengths + "1111", 1, 15);
        meets("ends in the lengths", lengths + "0" + "110", 1, 15);
        meets("ends of a wrong beginning in it", bits(255, 8), 1, 1);
        meets("ends of a wrong n in it", bits(21332, 16) + bits(255, 8), 1, 3);
    }

    private void head() {
        String rest = bits(0, 64);
        meets("wrong first byte", bits(21332 ^ 256, 16) + rest, 2, 0);
        meets("wrong second byte", bits(21332 ^ 1, 16) + rest, 2, 0);
        meets("a wrong beginning and no more", bits(0, 16), 2, 0);
        meets("n 901", bits(21332, 16) + bits(901, 16), 3, 2);
        meets("n 65535", bits(21332, 16) + bits(65535, 16) + rest, 3, 2);
        meets("n 900", bits(21332, 16) + bits(900, 16), 1, 4);
        meets("ORIGIN 900 of 900", bits(21332, 16) + bits(900, 16) + bits(900, 16), 4, 4);
        meets("ORIGIN 899 of 900", bits(21332, 16) + bits(900, 16) + bits(899, 16), 1, 6);
        meets("ORIGIN 1 of 1", head(1, 1) + list('a'), 4, 4);
        meets("ORIGIN 1 of 0", head(0, 1), 4, 4);
        meets("ORIGIN 65535 of 900", head(900, 65535), 4, 4);
    }

    private void list() {
        meets("no sixteenths", head(1, 0) + bits(0, 16) + bits(0, 16), 5, 10);
        meets("a sixteenth without a byte", head(1, 0) + bits(0x8000, 16) + bits(0, 16), 5, 12);
        meets("the second one without", head(1, 0) + bits(0x8001, 16) + bits(1, 16) + bits(0, 16), 5, 14);
        meets("the first one without, and it ends", head(1, 0) + bits(0xffff, 16) + bits(0, 16), 5, 12);
        meets("the last one lacks", head(1, 0) + bits(0x8001, 16) + bits(1, 16) + bits(1, 8), 1, 15);
    }

    private void lengths() {
        String ahead = head(1, 0) + list('a');
        for (int length : new int[] {0, 13, 14, 15}) {
            meets("first length " + length, ahead + bits(length, 4) + "0000", 6, 14);
        }
        meets("0 and one more", ahead + bits(0, 4) + "100" + "0" + "0", 6, 14);
        meets("symbol 0 on the way to 0", ahead + bits(1, 4) + "11" + "100", 6, 14);
        meets("symbol 0 far on the way to 13", ahead + bits(1, 4) + "10".repeat(12), 6, 14);
        meets("symbol 1 on the way to 13", ahead + bits(12, 4) + "0" + "10" + "110", 6, 14);
        meets("symbol 1 far on the way", ahead + bits(1, 4) + "0" + "10".repeat(12), 6, 14);
        // Symbol 0 takes 4 + 2 + 2 + 1 bits, so that symbol 1 begins in the next byte, and goes on in the one behind it.
        meets("symbol 1 in the next byte", ahead + bits(1, 4) + "1011" + "0" + "1011101110" + "1111" + "0", 6, 15);
        meets("symbol 1 in the next byte, above", ahead + bits(12, 4) + "1110" + "0" + "1110111011101010", 6, 15);
        meets("wrong just where the tape ends", ahead + bits(1, 4) + "0" + "0" + "11", 6, 14);
        meets("symbol 2 in a byte of its own", ahead + bits(2, 4) + "0" + "1011" + "10110" + "1111", 6, 15);
    }

    private void wholeCodes() {
        String ahead = head(1, 0) + list('a');
        meets("1 1 1", ahead + bits(1, 4) + "0" + "0" + "0" + "11111111", 7, 14);
        meets("2 2 2", ahead + bits(2, 4) + "0" + "0" + "0" + "11111111", 7, 14);
        meets("1 1 2", ahead + bits(1, 4) + "0" + "0" + "100" + "11111111", 7, 14);
        meets("1 2 3", ahead + bits(1, 4) + "0" + "100" + "100" + "11111111", 7, 14);
        meets("12 12 12", ahead + bits(12, 4) + "0" + "0" + "0" + "11111111", 7, 14);
        meets("1 2 3, and it ends", ahead + bits(1, 4) + "0" + "100" + "100", 7, 14);
        String two = head(2, 0) + list('a', 200);
        meets("two sixteenths", two + bits(3, 4) + "0" + "0" + "0" + "0", 7, 16);
    }

    private void symbols() {
        // Codes by lengths 2 2 2 2: SYMBOLS 0 and 1 are digits, 2 is number 1, 3 is the END; 16 + 10 bits ahead of them.
        String lengths = list('a', 'b') + bits(2, 4) + "0000";
        due.is("the codes begin at byte 15", (80 + lengths.length()) / 8, 15);
        meets("END ahead of 1", head(1, 0) + lengths + "11", 8, 15);
        meets("END ahead of 3", head(3, 0) + lengths + "01" + "11", 8, 15);
        meets("END ahead of 3, behind digits", head(6, 0) + lengths + "01" + "00" + "10" + "11", 8, 15);
        meets("END in the next byte", head(9, 0) + lengths + "01" + "10" + "10" + "10" + "11", 8, 16);
        meets("digit 2 of 1", head(1, 0) + lengths + "01", 8, 15);
        meets("digits 1 1 of 2", head(2, 0) + lengths + "00" + "00" + "11", 8, 15);
        meets("digits 1 1 1 1 1 of 30, in the next byte", head(30, 0) + lengths + "00" + "00" + "00" + "00" + "00", 8, 16);
        meets("digits 1 1 1 1 1 of 31, and it ends", head(31, 0) + lengths + "00" + "00" + "00" + "00", 1, 16);
        meets("a number behind n", head(1, 0) + lengths + "00" + "10", 8, 15);
        meets("a number behind n, in the next byte", head(4, 0) + lengths + "10" + "10" + "10" + "10" + "10", 8, 16);
        meets("a digit behind n", head(1, 0) + lengths + "10" + "00", 8, 15);
        meets("ends ahead of the END", head(4, 0) + lengths + "10" + "10" + "10" + "10", 1, 16);
        meets("digits begin anew behind a number", head(3, 0) + lengths + "00" + "10" + "01" + "11", 8, 15);
    }

    private void notRight() {
        int check = PlainModel.checkOf(row("abab"));
        String body = PlainModel.bodyBits(row("bbaa"));
        reads("abab", PlainModel.headBits(4, 0, check) + body, row("abab"));
        meets("abab from 1", PlainModel.headBits(4, 1, check) + body, 9, 4);
        meets("baba from 3", PlainModel.headBits(4, 3, PlainModel.checkOf(row("baba"))) + body, 9, 4);
        reads("baba", PlainModel.headBits(4, 2, PlainModel.checkOf(row("baba"))) + body, row("baba"));
        meets("a LAST of two rings", head(3, 1) + PlainModel.bodyBits(row("aba")), 9, 4);
        meets("9 is ahead of 10, 11, 12", head(4, 1) + PlainModel.bodyBits(row("cccc")) + "1", 9, 4);
    }

    private void notPackedMeets(String what, List<Integer> packed) {
        meets(what, streamOf(packed, 0), 10, 2);
    }

    private void notPacked() {
        notPackedMeets("four and no count", row("aaaa"));
        notPackedMeets("four, a count, four and no count", join(many(4, 9), join(many(1, 251), many(4, 9))));
        notPackedMeets("count 252", join(many(4, 9), many(1, 252)));
        notPackedMeets("count 255", join(many(4, 9), many(1, 255)));
        notPackedMeets("count 0 and the same again", join(many(4, 9), join(many(1, 0), many(1, 9))));
        notPackedMeets("count 250 and the same again", join(many(4, 9), join(many(1, 250), many(1, 9))));
        List<Integer> full = join(many(4, 9), many(1, 251));
        List<Integer> half = join(full, full);
        notPackedMeets("601 bytes", join(half, join(many(4, 9), many(1, 87))));
        List<Integer> six = join(half, join(many(4, 9), many(1, 86)));
        reads("600 bytes", streamOf(six, PlainModel.checkOf(many(600, 9))), many(600, 9));
        notPackedMeets("600 bytes and one more", join(six, row("z")));
        List<Integer> wide = new ArrayList<>();
        for (int i = 0; i < 900; i++) {
            wide.add(i % 251);
        }
        notPackedMeets("900 bytes that are no runs", wide);
        notPackedMeets("601 bytes that are no runs", wide.subList(0, 601));
        reads("600 bytes that are no runs",
                streamOf(wide.subList(0, 600), PlainModel.checkOf(wide.subList(0, 600))), wide.subList(0, 600));
        meets("10 is ahead of 12", streamOf(row("aaaa"), 0) + bits(255, 16), 10, 2);
    }

    private void check() {
        int check = PlainModel.checkOf(row("banana"));
        for (int bit = 0; bit < 32; bit++) {
            meets("THE CHECK, bit " + bit, streamOf(row("banana"), check ^ 1 << bit), 11, 6);
        }
        meets("no bytes with a CHECK", PlainModel.headBits(0, 0, 1), 11, 6);
        meets("11 is ahead of 12", streamOf(row("banana"), ~check) + bits(255, 16), 11, 6);
        meets("11 is ahead of 12, of no bytes", PlainModel.headBits(0, 0, 1) + bits(1, 8), 11, 6);
    }

    private void rest() {
        for (String text : new String[] {"a", "banana", "abracadabra", "aaaaab", "zyx"}) {
            String stream = PlainModel.streamBits(row(text));
            int size = PlainModel.bytesOf(stream).size();
            String whole = stream + "0".repeat(8 * size - stream.length());
            for (int i = stream.length(); i < 8 * size; i++) {
                meets(text + ": a 1 in the filling", whole.substring(0, i) + "1" + whole.substring(i + 1), 12, size - 1);
                meets(text + ": a 1 in the filling, and more",
                        whole.substring(0, i) + "1" + whole.substring(i + 1) + bits(0, 8), 12, size - 1);
            }
            meets(text + ": a byte 0 more", whole + bits(0, 8), 12, size);
            meets(text + ": bytes more", whole + bits(-1, 24), 12, size);
        }
        meets("no bytes and one more", PlainModel.headBits(0, 0, 0) + bits(0, 8), 12, 10);
    }
}
