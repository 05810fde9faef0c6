import java.util.ArrayList;
import java.util.Collections;
import java.util.List;

/** Edges of READING THE TAPE, of the FAULTS and of their places: promises 25 and 26. */
final class ReadingEdges extends Edges {
    // a is byte 1 of sixteenth 6, b is byte 2.
    private static final String LIST_A = "0000001000000000" + "0100000000000000";
    private static final String LIST_AB = "0000001000000000" + "0110000000000000";
    // SYMBOLS 0, 1 and the END, 2, have the CODES 10, 11 and 0; 9 bits, from byte 14 on.
    private static final String LENGTHS_A = "0010" + "0" + "0" + "110";
    // SYMBOLS 0, 1, 2 and the END, 3, have the CODES 00, 01, 10 and 11; they fill byte 14.
    private static final String LENGTHS_AB = "0010" + "0" + "0" + "0" + "0";
    private static final String ONE = "00", TWO = "01", SECOND = "10", END = "11";

    private static String head(int n, int origin, int check) {
        return bits(21332, 16) + bits(n, 16) + bits(origin, 16) + bits(check, 32);
    }

    private static String head(int n, int origin) {
        return head(n, origin, 0);
    }

    private static List<Integer> row(String text) {
        return text.chars().boxed().toList();
    }

    private static List<Integer> many(int n, int b) {
        return Collections.nCopies(n, b);
    }

    @SafeVarargs
    private static List<Integer> join(List<Integer>... rows) {
        List<Integer> all = new ArrayList<>();
        for (List<Integer> row : rows) {
            all.addAll(row);
        }
        return all;
    }

    /** The bits of a row that is taken for PACKED, whatever it unpacks to. */
    private static String streamOf(List<Integer> packed, int check) {
        int[][] turns = PlainModel.turnsOf(packed);
        int origin = 0;
        while (turns[origin][packed.size()] != 0) {
            origin++;
        }
        return head(packed.size(), origin, check) + PlainModel.bodyBits(PlainModel.lastOf(packed));
    }

    /** Reads the bits behind a THE BLOCK of "kept", which stays; THE TAPE is empty then. */
    private void meets(String what, String bits, int fault, int place) {
        SortTransform x = of("kept");
        putOnTape(x, bits);
        is(what + ": read()", x.read(), -10 - fault);
        is(what + ": faultAt()", x.faultAt(), place);
        blockIs(what, x, "kept");
        is(what + ": cut(0)", x.cut(0), 0);
    }

    private void reads(String what, String bits, List<Integer> row) {
        SortTransform x = of("kept");
        putOnTape(x, bits);
        is(what + ": read()", x.read(), row.size());
        is(what + ": faultAt()", x.faultAt(), NONE);
        // Of a long row THE CHECK tells for the rest, so that no object is asked more than 512 times.
        for (int i = 0; i < row.size() && i < 100; i++) {
            is(what + ": octet(" + i + ")", x.octet(i), row.get(i));
        }
        is(what + ": octet behind it", x.octet(row.size()), NONE);
        is(what + ": check()", x.check(), PlainModel.checkOf(row));
        is(what + ": cut(0)", x.cut(0), 0);
    }

    // ---- 25: "THE TAPE, which is empty then, is read: THE BLOCK is that: how many bytes; -10 less the FAULT (it stays)."

    /** "how many bytes": none, of THE STREAM of no bytes. */
    void p25OfNoBytes() {
        reads("no bytes", head(0, 0, 0), List.of());
    }

    /** The least with a list: one byte. */
    void p25OfOneByte() {
        reads("a", head(1, 0, PlainModel.checkOf(row("a"))) + LIST_A + LENGTHS_A + "10" + "0", row("a"));
        reads("0", PlainModel.streamBits(List.of(0)), List.of(0));
        reads("255", PlainModel.streamBits(List.of(255)), List.of(255));
    }

    /** The most: 600 bytes, of one kind and of many. */
    void p25OfAFullBlock() {
        reads("600 like ones", PlainModel.streamBits(many(ROOM, 9)), many(ROOM, 9));
        List<Integer> row = new ArrayList<>();
        for (int i = 0; i < ROOM; i++) {
            row.add(i * i % 251);
        }
        reads("600 of many kinds", PlainModel.streamBits(row), row);
    }

    /** The most bytes of PACKED that 600 bytes have: 750. */
    void p25OfMostPacked() {
        List<Integer> row = new ArrayList<>();
        for (int i = 0; i < 150; i++) {
            row.addAll(many(4, i));
        }
        is("PACKED", PlainModel.packOf(row).size(), 750);
        reads("750 bytes of PACKED", PlainModel.streamBits(row), row);
    }

    /** "THE TAPE, which is empty then": behind a good reading, and a full one has room again. */
    void p25TapeIsEmptyThen() {
        SortTransform x = empty();
        x.write();
        x.take();
        is("read()", x.read(), 0);
        is("cut(0)", x.cut(0), 0);
        is("read() again", x.read(), -11);
        is("tape(1, 1)", x.tape(1, 1), 1);
    }

    /** "THE TAPE, which is empty then": behind a FAULT, too. */
    void p25TapeIsEmptyBehindAFault() {
        SortTransform x = empty();
        x.tape(0, 8);
        is("read()", x.read(), -12);
        is("cut(0)", x.cut(0), 0);
        is("tape(1, 1)", x.tape(1, 1), 1);
    }

    /** "THE BLOCK is that": nothing is left of what it had, and all that is told is of the new one. */
    void p25BlockIsAnotherThen() {
        SortTransform x = of("banana");
        x.write();
        x.take();
        x.clear();
        x.fill(ROOM, 'z');
        x.order(0);
        x.symbol(0);
        x.pack();
        is("read()", x.read(), 6);
        blockIs("read", x, "banana");
        is("order(0)", x.order(0), 5);
        is("origin()", x.origin(), 3);
        is("symbol(0)", x.symbol(0), 2);
        is("pack()", x.pack(), 6);
        is("fill(594, 1)", x.fill(594, 1), ROOM);
    }

    /** "-10 less the FAULT (it stays)": THE BLOCK and all that is told of it. */
    void p25BlockStaysBehindAFault() {
        SortTransform x = of("banana");
        x.order(0);
        x.symbol(0);
        // All of "ab" is read before THE CHECK is found to be another one.
        putOnTape(x, head(2, 0) + LIST_AB + LENGTHS_AB + SECOND + SECOND + END);
        is("read()", x.read(), -21);
        blockIs("behind it", x, "banana");
        is("order(0)", x.order(0), 5);
        is("last(0)", x.last(0), 'n');
        is("symbol(0)", x.symbol(0), 2);
        is("code(4, 0)", x.code(4, 0), 3);
        is("pack()", x.pack(), 6);
    }

    /** One object reads again and again: longer ones, shorter ones, none, and behind a FAULT. */
    void p25AgainAndAgain() {
        SortTransform x = empty();
        for (String text : new String[] {"banana", "a", "mississippi", "", "aaaaaaaab", "ab"}) {
            putOnTape(x, PlainModel.streamBits(row(text)));
            is(text + ": read()", x.read(), text.length());
            blockIs(text, x, text);
            putOnTape(x, head(2, 0) + LIST_AB + LENGTHS_AB + SECOND + SECOND + END);
            is(text + ": read() of another CHECK", x.read(), -21);
            blockIs(text + " behind a FAULT", x, text);
        }
    }

    /** OUT stays, behind a good reading and behind a FAULT. */
    void p25OutStays() {
        SortTransform x = empty();
        x.write();
        x.take();
        x.read();
        is("out(9)", x.out(9), 0);
        x.read();
        is("out(9) behind a FAULT", x.out(9), 0);
        is("out(10)", x.out(10), NONE);
    }

    // ---- FAULT 1: "the tape ends (its length)"

    /** "its length": 0 of an empty one. */
    void p25Fault01EmptyTape() {
        meets("an empty tape", "", 1, 0);
    }

    /** "the tape ends": wherever a good stream is cut. */
    void p25Fault01AnyCut() {
        String good = PlainModel.streamBits(row("mississippi, aaaaaaaa"));
        int size = PlainModel.bytesOf(good).size();
        for (int n = 0; n < size; n++) {
            meets("cut at " + n, good.substring(0, 8 * n), 1, n);
        }
    }

    /** "the tape ends": of n 0 in THE CHECK. */
    void p25Fault01OfNoBytes() {
        meets("nine bytes", head(0, 0).substring(0, 72), 1, 9);
    }

    /** "the tape ends": ahead of the END, though all n bytes are there. */
    void p25Fault01AheadOfTheEnd() {
        meets("four bytes and no END", head(4, 0) + LIST_AB + LENGTHS_AB + SECOND + SECOND + SECOND + SECOND, 1, 16);
    }

    /** "READING THE TAPE (up to 3000 bytes)": LENGTHS that go to and fro to the end of a full tape. */
    void p25Fault01FullTape() {
        String bits = head(1, 0) + LIST_A + "0010";
        meets("3000 bytes", bits + "1011".repeat((8 * TAPE_ROOM - bits.length()) / 4), 1, TAPE_ROOM);
    }

    // ---- FAULT 2: "it does not begin so"

    /** One more and one less than 21332, in its first byte and in its second: it stands at byte 0. */
    void p25Fault02Begin() {
        for (int begin : new int[] {21331, 21333, 21332 - 256, 21332 + 256, 0, 65535}) {
            meets("begin " + begin, bits(begin, 16) + head(0, 0).substring(16), 2, 0);
        }
        reads("begin 21332", bits(21332, 16) + head(0, 0).substring(16), List.of());
    }

    /** "the first that is met": a tape of two wrong bytes has begun wrong before it ends. */
    void p25Fault02AheadOfTheEndOfTheTape() {
        meets("two bytes", bits(0, 16), 2, 0);
        meets("and a wrong n", bits(0, 16) + bits(901, 16) + bits(65535, 16), 2, 0);
    }

    // ---- FAULT 3: "n above 900"

    /** 900 is not above 900. */
    void p25Fault03NineHundred() {
        meets("n 900", head(900, 0), 1, 10);
        meets("n 901", head(901, 0), 3, 2);
        meets("n 65535", head(65535, 0), 3, 2);
        meets("n 1024", head(1024, 0), 3, 2);
    }

    /** n 900 is read to its end: 900 bytes of LAST, which are too many for THE BLOCK. */
    void p25Fault03NineHundredAreRead() {
        List<Integer> row = new ArrayList<>();
        for (int i = 0; i < 900; i++) {
            row.add(i % 251);
        }
        meets("900 bytes", streamOf(row, 0), 10, 2);
    }

    /** "the first that is met": ahead of the ORIGIN, and of the tape's end behind it. */
    void p25Fault03AheadOfTheOrigin() {
        meets("n 901 and no more", bits(21332, 16) + bits(901, 16), 3, 2);
        meets("n 901 and ORIGIN 901", head(901, 901), 3, 2);
    }

    // ---- FAULT 4: "the ORIGIN is not below n (of n 0: not 0)"

    /** n - 1 is below n, n is not. */
    void p25Fault04OriginBelowCount() {
        meets("ORIGIN 4 of 5", head(5, 4), 1, 10);
        meets("ORIGIN 5 of 5", head(5, 5), 4, 4);
        meets("ORIGIN 6 of 5", head(5, 6), 4, 4);
        meets("ORIGIN 0 of 1", head(1, 0), 1, 10);
        meets("ORIGIN 1 of 1", head(1, 1), 4, 4);
        meets("ORIGIN 899 of 900", head(900, 899), 1, 10);
        meets("ORIGIN 900 of 900", head(900, 900), 4, 4);
        meets("ORIGIN 65535 of 900", head(900, 65535), 4, 4);
    }

    /** "of n 0: not 0" */
    void p25Fault04OfNoBytes() {
        reads("ORIGIN 0 of 0", head(0, 0), List.of());
        meets("ORIGIN 1 of 0", head(0, 1), 4, 4);
        meets("ORIGIN 256 of 0", head(0, 256), 4, 4);
    }

    /** "the first that is met": ahead of the tape's end behind it. */
    void p25Fault04AheadOfTheEndOfTheTape() {
        meets("six bytes", bits(21332, 16) + bits(5, 16) + bits(5, 16), 4, 4);
    }

    // ---- FAULT 5: "a sixteenth without a byte, no sixteenths"

    /** "no sixteenths": at byte 10. */
    void p25Fault05NoSixteenths() {
        meets("no sixteenths", head(1, 0) + bits(0, 16), 5, 10);
        meets("no sixteenths, and more", head(1, 0) + bits(0, 16) + bits(-1, 32), 5, 10);
    }

    /** "a sixteenth without a byte": at its own 16 bits, the first, a later one, the last of all. */
    void p25Fault05NoByte() {
        meets("the only one", head(1, 0) + bits(1, 16) + bits(0, 16), 5, 12);
        meets("the second", head(1, 0) + bits(0x8001, 16) + bits(1, 16) + bits(0, 16), 5, 14);
        meets("the last of all", head(1, 0) + bits(0xFFFF, 16) + bits(0x80008000, 32).repeat(7) + bits(1, 16) + bits(0, 16),
                5, 42);
    }

    /** The first byte of a sixteenth and its last are bytes. */
    void p25Fault05FirstAndLastByte() {
        for (int b : new int[] {0, 15, 16, 239, 240, 255}) {
            String list = bits(0x8000 >> b / 16, 16) + bits(0x8000 >> b % 16, 16);
            reads("byte " + b, head(1, 0, PlainModel.checkOf(List.of(b))) + list + LENGTHS_A + "10" + "0", List.of(b));
        }
    }

    /** Of n 0 there is no list, and so no such FAULT: what comes there is too much. */
    void p25Fault05NotOfNoBytes() {
        meets("n 0 and no sixteenths", head(0, 0) + bits(0, 16), 12, 10);
    }

    // ---- FAULT 6: "a LENGTH below 1 or above 12 (at its first bit; also on the way)"

    /** "below 1": the first LENGTH 0, even if one more follows. */
    void p25Fault06FirstLengthTooSmall() {
        meets("0", head(1, 0) + LIST_A + "0000" + "0000", 6, 14);
        meets("0 and one more", head(1, 0) + LIST_A + "0000" + "100" + "0" + "0", 6, 14);
    }

    /** "above 12": the first LENGTH 13 to 15, even if less follows. */
    void p25Fault06FirstLengthTooLarge() {
        for (int length = 13; length <= 15; length++) {
            meets("" + length, head(1, 0) + LIST_A + bits(length, 4) + "0000", 6, 14);
        }
        meets("13 and one less", head(1, 0) + LIST_A + "1101" + "110" + "0" + "0", 6, 14);
    }

    /** 1 and 12 are LENGTHS: the first LENGTHS 1 and 12 are read on. */
    void p25Fault06LeastAndMostLength() {
        int check = PlainModel.checkOf(row("a"));
        reads("1, 2, 2", head(1, 0, check) + LIST_A + "0001" + "0" + "100" + "0" + "0" + "11", row("a"));
        reads("12 on the way to 1, 2, 2", head(1, 0, check) + LIST_A + "1100" + "11".repeat(11) + "0" + "100" + "0"
                + "0" + "11", row("a"));
        reads("1 and 12 on the way to 2, 2, 1", head(1, 0, check) + LIST_A + "0010" + "11" + "10".repeat(11)
                + "11".repeat(10) + "0" + "0" + "110" + "10" + "0", row("a"));
    }

    /** LENGTHS 1 to 12 and 12 again are good. */
    void p25Fault06AllLengths() {
        // Eleven bytes: SYMBOLS 0 .. 12 with 1, 2 .. 12, 12.
        String list = "0000001000000000" + "0111111111110000";
        String lengths = "0001" + "0" + "100".repeat(11) + "0";
        reads("1 .. 12, 12", head(1, 0, PlainModel.checkOf(row("a"))) + list + lengths + "0" + "1".repeat(12), row("a"));
        meets("1 .. 13", head(1, 0) + list + "0001" + "0" + "100".repeat(12), 6, 18);
    }

    /** "also on the way": below 1 and above 12, though it would come back. */
    void p25Fault06OnTheWay() {
        meets("2, 1, 0 and back", head(1, 0) + LIST_A + "0010" + "1111" + "1010" + "0" + "0" + "110" + "10" + "0", 6, 14);
        meets("12, 13 and back", head(1, 0) + LIST_A + "1100" + "10" + "11".repeat(11) + "0" + "0" + "110" + "10" + "0",
                6, 14);
    }

    /** "at its first bit": where the bits of that SYMBOL's LENGTH begin, not where they go wrong. */
    void p25Fault06AtItsFirstBit() {
        // SYMBOL 0 ends with byte 14, and SYMBOL 1 goes up from 2 to 13 in bytes 15 to 17.
        meets("SYMBOL 1 in bytes 15 to 17", head(1, 0) + LIST_AB + "0001" + "100" + "0" + "10".repeat(11), 6, 15);
        // SYMBOLS 0 and 1 end one bit into byte 15, where SYMBOL 2 begins; it goes down from 3 to 0 within it.
        meets("SYMBOL 2 in byte 15", head(1, 0) + LIST_AB + "0001" + "10100" + "0" + "111111", 6, 15);
        // SYMBOL 1 has the last bit of byte 14 as its first one.
        meets("SYMBOL 1 from the end of byte 14 on", head(1, 0) + LIST_A + "0001" + "100" + "111111", 6, 14);
    }

    /** "the first that is met": ahead of the tape's end, where the LENGTH is wrong with its last bits. */
    void p25Fault06AheadOfTheEndOfTheTape() {
        meets("0 by the last bits", head(1, 0) + LIST_A + "0001" + "0" + "0" + "11", 6, 14);
        meets("half a step by the last bit", head(1, 0) + LIST_AB + "0001" + "000" + "1", 1, 15);
    }

    // ---- FAULT 7: "LENGTHS by which some row of bits is no CODE's beginning, or two CODES' (at the first LENGTH)"

    /** "some row of bits is no CODE's beginning": too long ones. */
    void p25Fault07TooFewCodes() {
        meets("2, 2, 2", head(1, 0) + LIST_A + "0010" + "000" + "111111111", 7, 14);
        meets("1, 2, 3", head(1, 0) + LIST_A + "0001" + "0" + "100" + "100" + "11111", 7, 14);
        meets("12, 12, 12", head(1, 0) + LIST_A + "1100" + "000" + "111111111", 7, 14);
    }

    /** "or two CODES'": too short ones. */
    void p25Fault07TooManyCodes() {
        meets("1, 1, 1", head(1, 0) + LIST_A + "0001" + "000" + "111111111", 7, 14);
        meets("1, 1, 2", head(1, 0) + LIST_A + "0001" + "00" + "100" + "1111111", 7, 14);
        meets("1, 2, 2, 2", head(1, 0) + LIST_AB + "0001" + "0" + "100" + "0" + "0" + "111111", 7, 14);
    }

    /** The least that is amiss: one CODE of 12 bits too few, and one too many. */
    void p25Fault07ByOneLongCode() {
        String list = "0000001000000000" + "0111111111110000";
        meets("1 .. 12, 11", head(1, 0) + list + "0001" + "0" + "100".repeat(11) + "110", 7, 14);
        String less = "0000001000000000" + "0111111111100000";
        meets("1 .. 12", head(1, 0) + less + "0001" + "0" + "100".repeat(11), 7, 14);
        String more = "0000001000000000" + "0111111111111000";
        meets("1 .. 12, 12, 12", head(1, 0) + more + "0001" + "0" + "100".repeat(11) + "00", 7, 14);
    }

    /** "at the first LENGTH": behind several sixteenths, and though the last LENGTHS stand in other bytes. */
    void p25Fault07AtTheFirstLength() {
        String list = bits(0xFFFF, 16) + bits(0x8000, 16).repeat(16);
        meets("eighteen LENGTHS of 1", head(1, 0) + list + "0001" + "0".repeat(18), 7, 44);
        meets("the last LENGTH far behind", head(1, 0) + LIST_A + "0001" + "1011".repeat(9) + "0" + "0" + "0", 7, 14);
    }

    /** "the first that is met": 6 is ahead of 7, and 7 is ahead of the tape's end behind the LENGTHS. */
    void p25Fault07AmongOthers() {
        meets("1, 1, and on to 0", head(1, 0) + LIST_A + "0001" + "00" + "11" + "0", 6, 14);
        meets("2, 2, 2 and no more", head(1, 0) + LIST_AB + "0010" + "0" + "0" + "0" + "0", 1, 15);
        meets("3, 3, 3, 3 and no more", head(1, 0) + LIST_AB + "0011" + "0" + "0" + "0" + "0", 7, 14);
    }

    // ---- FAULT 8: "a SYMBOL by which there are more than n bytes (a digit, too), or the END ahead of n (at its first bit)"

    /** "more than n bytes": by a number; just n are good. */
    void p25Fault08Number() {
        reads("ab of 2", head(2, 0, PlainModel.checkOf(row("ab"))) + LIST_AB + LENGTHS_AB + SECOND + SECOND + END,
                row("ab"));
        meets("a third of 2", head(2, 0) + LIST_AB + LENGTHS_AB + SECOND + SECOND + SECOND + END, 8, 15);
        meets("a fifth of 4", head(4, 0) + LIST_AB + LENGTHS_AB + SECOND.repeat(5) + END, 8, 16);
    }

    /** "a digit, too": by a first digit, and by a later one; just n are good. */
    void p25Fault08Digit() {
        String ahead = LIST_AB + LENGTHS_AB;
        reads("digit 2 of 2", head(2, 0, PlainModel.checkOf(row("aa"))) + ahead + TWO + END, row("aa"));
        reads("digits 1 1 of 3", head(3, 0, PlainModel.checkOf(row("aaa"))) + ahead + ONE + ONE + END, row("aaa"));
        meets("digit 2 of 1", head(1, 0) + ahead + TWO + END, 8, 15);
        meets("digits 1 1 of 2", head(2, 0) + ahead + ONE + ONE + END, 8, 15);
        meets("digits 1 2 of 4", head(4, 0) + ahead + ONE + TWO + END, 8, 15);
        meets("a digit behind n", head(2, 0) + ahead + SECOND + SECOND + ONE + END, 8, 15);
        meets("digits 1 1 1 1 1 of 30", head(30, 0) + ahead + ONE.repeat(5) + END, 8, 16);
    }

    /** "a digit, too": the most digits that n 900 bears, and one more. */
    void p25Fault08MostDigits() {
        // Nine digits 1 are 511, with a tenth they were 1023.
        meets("ten digits of 900", head(900, 0) + LIST_AB + LENGTHS_AB + ONE.repeat(10) + END, 8, 17);
        meets("nine digits of 900, and the END", head(900, 0) + LIST_AB + LENGTHS_AB + ONE.repeat(9) + END, 8, 17);
        meets("thirty digits of 900", head(900, 0) + LIST_AB + LENGTHS_AB + TWO.repeat(30) + END, 8, 17);
    }

    /** "the END ahead of n": at once, one byte ahead of it, and behind a row of noughts. */
    void p25Fault08EndAheadOfCount() {
        String ahead = LIST_AB + LENGTHS_AB;
        meets("at once", head(1, 0) + ahead + END, 8, 15);
        meets("1 of 2", head(2, 0) + ahead + SECOND + END, 8, 15);
        meets("2 of 3, behind a digit", head(3, 0) + ahead + TWO + END, 8, 15);
        meets("4 of 5, in the next byte", head(5, 0) + ahead + SECOND.repeat(4) + END, 8, 16);
    }

    /** "at its first bit": of a CODE that goes on in the next byte. */
    void p25Fault08AtItsFirstBit() {
        // LENGTHS 1, 2, 3, 3: SYMBOL 0 is 0, 1 is 10, 2 is 110, the END is 111; they end four bits into byte 15.
        String ahead = LIST_AB + "0001" + "0" + "100" + "100" + "0";
        is("the bits ahead of the CODES", 80 + ahead.length(), 8 * 15 + 4);
        meets("the END in bytes 15 and 16", head(9, 0) + ahead + "0" + "10" + "111", 8, 15);
        meets("the END from byte 16 on", head(20, 0) + ahead + "0" + "0" + "0" + "0" + "111", 8, 16);
        meets("a number in bytes 15 and 16", head(3, 0) + ahead + "0" + "0" + "110", 8, 15);
        meets("a digit in bytes 15 and 16", head(10, 0) + ahead + "0" + "0" + "0" + "10", 8, 15);
    }

    /** "the first that is met": ahead of the tape's end, and ahead of 9, 10, 11, 12. */
    void p25Fault08AheadOfOthers() {
        meets("the END by the last bits", head(5, 0) + LIST_AB + LENGTHS_AB + SECOND.repeat(3) + END, 8, 15);
        meets("and bits more", head(5, 1) + LIST_AB + LENGTHS_AB + SECOND.repeat(2) + END + "11" + "11111111", 8, 15);
    }

    // ---- FAULT 9: "LAST is not RIGHT with the ORIGIN (at the ORIGIN)"

    /** No row has such a LAST. */
    void p25Fault09NoSuchLast() {
        meets("aba", head(3, 0, PlainModel.checkOf(row("aaa"))) + PlainModel.bodyBits(row("aba")), 9, 4);
        meets("ab", head(2, 0, PlainModel.checkOf(row("aa"))) + PlainModel.bodyBits(row("ab")), 9, 4);
    }

    /** Of like turns the ORIGIN is that of turn 0, which stands first. */
    void p25Fault09NotTheFirstOfLikeTurns() {
        int check = PlainModel.checkOf(row("abab"));
        reads("abab from 0", head(4, 0, check) + PlainModel.bodyBits(row("bbaa")), row("abab"));
        meets("abab from 1", head(4, 1, check) + PlainModel.bodyBits(row("bbaa")), 9, 4);
        meets("aaa from 2", head(3, 2, PlainModel.checkOf(row("aaa"))) + PlainModel.bodyBits(row("aaa")), 9, 4);
    }

    /** Another ORIGIN of a LAST that is RIGHT gives another turn: that is no FAULT 9, but THE CHECK is another one. */
    void p25Fault09AnotherTurnIsRight() {
        int check = PlainModel.checkOf(row("banana"));
        reads("banana from 3", head(6, 3, check) + PlainModel.bodyBits(row("nnbaaa")), row("banana"));
        meets("banana from 2", head(6, 2, check) + PlainModel.bodyBits(row("nnbaaa")), 11, 6);
    }

    // ---- FAULT 10: "what it gives is not PACKED as told of what it unpacks to, or that has more than 600 bytes (at n)"

    /** Four like ones without a count behind them. */
    void p25Fault10NoCount() {
        meets("aaaa", streamOf(row("aaaa"), PlainModel.checkOf(row("aaaa"))), 10, 2);
        List<Integer> more = join(many(4, 9), many(1, 251), many(4, 9));
        meets("a whole run and four", streamOf(more, PlainModel.checkOf(many(259, 9))), 10, 2);
        reads("aaa", streamOf(row("aaa"), PlainModel.checkOf(row("aaa"))), row("aaa"));
    }

    /** A count is 0 to 251. */
    void p25Fault10CountTooLarge() {
        reads("count 0", streamOf(join(many(4, 9), many(1, 0)), PlainModel.checkOf(many(4, 9))), many(4, 9));
        reads("count 251", streamOf(join(many(4, 9), many(1, 251)), PlainModel.checkOf(many(255, 9))), many(255, 9));
        meets("count 252", streamOf(join(many(4, 9), many(1, 252)), PlainModel.checkOf(many(256, 9))), 10, 2);
        meets("count 255", streamOf(join(many(4, 9), many(1, 255)), PlainModel.checkOf(many(259, 9))), 10, 2);
    }

    /** A count tells of all that follow: none of the same comes behind it, but behind 251. */
    void p25Fault10CountTooSmall() {
        List<Integer> none = join(many(4, 9), many(1, 0), many(1, 9));
        meets("count 0 and one more", streamOf(none, PlainModel.checkOf(many(5, 9))), 10, 2);
        List<Integer> less = join(many(4, 9), many(1, 250), many(1, 9));
        meets("count 250 and one more", streamOf(less, PlainModel.checkOf(many(255, 9))), 10, 2);
        List<Integer> most = join(many(4, 9), many(1, 251), many(1, 9));
        reads("count 251 and one more", streamOf(most, PlainModel.checkOf(many(256, 9))), many(256, 9));
    }

    /** "more than 600 bytes": by a count, by a byte, by bytes without runs; 600 are good. */
    void p25Fault10MoreThanSixHundred() {
        List<Integer> whole = join(many(4, 9), many(1, 251));
        List<Integer> full = join(whole, whole, many(4, 9), many(1, 86));
        reads("600", streamOf(full, PlainModel.checkOf(many(ROOM, 9))), many(ROOM, 9));
        List<Integer> more = join(whole, whole, many(4, 9), many(1, 87));
        meets("601 by a count", streamOf(more, PlainModel.checkOf(many(601, 9))), 10, 2);
        List<Integer> behind = join(full, row("z"));
        meets("601 by a byte", streamOf(behind, PlainModel.checkOf(join(many(ROOM, 9), row("z")))), 10, 2);
        List<Integer> plain = new ArrayList<>();
        for (int i = 0; i < 601; i++) {
            plain.add(i % 251);
        }
        meets("601 without runs", streamOf(plain, PlainModel.checkOf(plain)), 10, 2);
        List<Integer> six = plain.subList(0, ROOM);
        reads("600 without runs", streamOf(six, PlainModel.checkOf(six)), six);
    }

    /** A count like the bytes behind it is in no run of theirs. */
    void p25Fault10CountIsInNoRun() {
        List<Integer> three = join(many(9, 9), many(3, 5));
        reads("a count 5 and three 5", PlainModel.streamBits(three), three);
        List<Integer> packed = join(many(4, 9), many(1, 5), many(3, 5), many(1, 0));
        List<Integer> row = join(many(9, 9), many(3, 5), many(1, 0));
        reads("a count 5, three 5 and a 0", streamOf(packed, PlainModel.checkOf(row)), row);
    }

    // ---- FAULT 11: "THE CHECK is another one (at it)"

    /** Any bit of it, the highest and the lowest; it stands at byte 6. */
    void p25Fault11AnyBit() {
        int check = PlainModel.checkOf(row("banana"));
        String body = PlainModel.bodyBits(row("nnbaaa"));
        for (int bit = 0; bit < 32; bit++) {
            meets("bit " + bit, head(6, 3, check ^ 1 << bit) + body, 11, 6);
        }
    }

    /** Of n 0, too: it is that of no bytes, 0. */
    void p25Fault11OfNoBytes() {
        meets("1", head(0, 0, 1), 11, 6);
        meets("all bits", head(0, 0, -1), 11, 6);
    }

    // ---- FAULT 12: "bits that fill and are not 0, or more bytes (at the first such byte)"

    /** "bits that fill and are not 0": each of them, at the last byte. */
    void p25Fault12Filling() {
        String good = head(1, 0, PlainModel.checkOf(row("a"))) + LIST_A + LENGTHS_A + "10" + "0";
        meets("1000", good + "1000", 12, 15);
        meets("0100", good + "0100", 12, 15);
        meets("0010", good + "0010", 12, 15);
        meets("0001", good + "0001", 12, 15);
        reads("0000", good + "0000", row("a"));
    }

    /** "or more bytes": the first behind the last, also if it is 0. */
    void p25Fault12MoreBytes() {
        String good = head(1, 0, PlainModel.checkOf(row("a"))) + LIST_A + LENGTHS_A + "10" + "0" + "0000";
        meets("a byte 0", good + bits(0, 8), 12, 16);
        meets("a byte 255", good + bits(255, 8), 12, 16);
        meets("two bytes", good + bits(1, 16), 12, 16);
    }

    /** "at the first such byte": the bits that fill come ahead of the bytes behind them. */
    void p25Fault12FillingAheadOfMore() {
        String good = head(1, 0, PlainModel.checkOf(row("a"))) + LIST_A + LENGTHS_A + "10" + "0";
        meets("both", good + "0001" + bits(0, 8), 12, 15);
    }

    /** From none to seven bits that fill: a 1 in the last of them, and a byte more behind them. */
    void p25Fault12AnyFilling() {
        boolean[] met = new boolean[8];
        for (String text : new String[] {"a", "b", "aa", "ab", "aab", "abc", "aaab", "aabb", "aabc", "abcd", "ababa",
            "aaaa", "abcbac", "abcde", "aabbcc", "mississippi", "banana"}) {
            String bits = PlainModel.streamBits(row(text));
            int filling = (8 - bits.length() % 8) % 8;
            met[filling] = true;
            int size = (bits.length() + filling) / 8;
            reads(text, bits, row(text));
            meets(text + " and a byte 0", bits + "0".repeat(filling + 8), 12, size);
            if (filling > 0) {
                meets(text + " and a last bit", bits + "0".repeat(filling - 1) + "1", 12, size - 1);
                meets(text + " and a first bit", bits + "1" + "0".repeat(filling - 1), 12, size - 1);
            }
        }
        for (int filling = 0; filling < 8; filling++) {
            is("some end with " + filling + " bits that fill", met[filling] ? 1 : 0, 1);
        }
    }

    /** Nothing to fill: the next byte is the first that is too much. */
    void p25Fault12NothingToFill() {
        String good = PlainModel.streamBits(row("ababa"));
        is("the bits end with a byte", good.length() % 8, 0);
        reads("ababa", good, row("ababa"));
        meets("a byte more", good + bits(0, 8), 12, good.length() / 8);
        meets("no bytes and one more", head(0, 0) + bits(0, 8), 12, 10);
    }

    /** A full tape: the first byte behind the stream, not the last one. */
    void p25Fault12FullTape() {
        meets("3000 bytes", head(0, 0) + "0".repeat(8 * (TAPE_ROOM - 10)), 12, 10);
    }

    // ---- "9, 10, 11 are looked at in this order behind the END, ahead of 12"

    /** 9 is ahead of 10, 11 and 12. */
    void p25OrderNineFirst() {
        // LAST 9, 9, 9, 9 from 1: not RIGHT, no count, no CHECK, bits that fill.
        String bits = head(4, 1, 1) + PlainModel.bodyBits(many(4, 9));
        meets("all of them", bits + "1".repeat(8 + (8 - bits.length() % 8) % 8), 9, 4);
    }

    /** 10 is ahead of 11 and 12. */
    void p25OrderTenSecond() {
        String bits = streamOf(many(4, 9), 1);
        meets("all but 9", bits + "1".repeat(8 + (8 - bits.length() % 8) % 8), 10, 2);
    }

    /** 11 is ahead of 12. */
    void p25OrderElevenThird() {
        String bits = streamOf(many(3, 9), 1);
        meets("11 and 12", bits + "1".repeat(8 + (8 - bits.length() % 8) % 8), 11, 6);
        meets("11 and 12, of no bytes", head(0, 0, 1) + bits(255, 8), 11, 6);
    }

    /** "behind the END": what comes ahead of it is met first, also if THE CHECK is another one. */
    void p25OrderBehindTheEnd() {
        meets("no END, and another CHECK", head(2, 0, 1) + LIST_AB + LENGTHS_AB + SECOND + SECOND + SECOND + SECOND, 8, 15);
        meets("another CHECK, and it ends", head(2, 0, 1) + LIST_AB + LENGTHS_AB, 1, 15);
    }

    // ---- 26: "The place of the FAULT of the latest read(); NONE without one."

    /** "NONE without one": ahead of any read(). */
    void p26AheadOfReading() {
        is("faultAt()", empty().faultAt(), NONE);
        is("faultAt() of banana", of("banana").faultAt(), NONE);
    }

    /** The least place is 0, which is not NONE. */
    void p26PlaceNought() {
        SortTransform x = empty();
        x.read();
        is("faultAt()", x.faultAt(), 0);
    }

    /** The most: a full tape's length. */
    void p26MostPlace() {
        SortTransform x = empty();
        String bits = head(1, 0) + LIST_A + "0010";
        putOnTape(x, bits + "1011".repeat((8 * TAPE_ROOM - bits.length()) / 4));
        is("read()", x.read(), -11);
        is("faultAt()", x.faultAt(), TAPE_ROOM);
    }

    /** "of the latest read(); NONE without one": a good one behind a FAULT has none. */
    void p26GoodReadingBehindAFault() {
        SortTransform x = empty();
        x.read();
        is("faultAt() behind a FAULT", x.faultAt(), 0);
        x.write();
        x.take();
        is("read()", x.read(), 0);
        is("faultAt() behind a good one", x.faultAt(), NONE);
    }

    /** "of the latest read()": another FAULT has another place. */
    void p26AnotherFault() {
        SortTransform x = empty();
        x.tape(1, 1);
        x.read();
        is("faultAt() of one byte", x.faultAt(), 1);
        putOnTape(x, head(0, 1));
        x.read();
        is("faultAt() of an ORIGIN", x.faultAt(), 4);
    }

    /** "of the latest read()": other calls, refused ones too, leave it. */
    void p26OtherCallsLeaveIt() {
        SortTransform x = empty();
        x.tape(0x5453, 2);
        x.read();
        is("faultAt()", x.faultAt(), 2);
        is("faultAt() again", x.faultAt(), 2);
        x.feed('a', 1);
        x.write();
        x.take();
        x.cut(5);
        x.spoil(9, 1);
        x.clear();
        x.back(0);
        is("faultAt() behind other calls", x.faultAt(), 2);
    }
}
