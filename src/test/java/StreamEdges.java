import java.util.List;

/** Edges of OUT and of THE TAPE, up to its reading: promises 19 to 24. */
final class StreamEdges extends Edges {
    // A block of bytes 1 (a) to 11 (k) that was searched for: LAST of its PACKED has weights by which LENGTHS pass 12.
    private static final String FAR_WEIGHTS = "bhaaaaadcccaegeffffjjaeabebdbbddajiifgbbbbbcggbbaebdccccaffaadbcbbbabgeeadc"
            + "ccccfiiiiagbaabcbgebdcggacaegccbbakeddddaegeeaaeaaeadccakaaeabgdbbgfjggeeee"
            + "egecbagbaeeagdbakkagaccbccaeeegeeffffeaeecaahhaagdcbbaaaeeeadbbgebaebggggaf"
            + "gabgcgfaadcbdcgbbcbgegegcccccjhhhhjiiiiaegchaaabdcbdccaiedeabcbbajiiiiafjgg"
            + "eeacaeeebaabbacaebddbaecbajjjjjcgebebabdbcghhaabcaeadcajaeaaadkkkkkaffffjhh"
            + "hhkjecafegbchaaahgggeeeaaaaaffffeacahhaaagcgedaiiiieagdbccabbbbbebhaabbbbae"
            + "fkjacggggeacgbbgedbaccccceeabbcggefaabbgdajggbabbdddajaddddddajaeeeaecahifg"
            + "bbebebddcgbbgccbgeeeeedcbbaebaeaeeeekaaeegdbaadddcccaeakkkkkaebebgdbagbabgc";

    private static String head(int n, int origin, int check) {
        return bits(21332, 16) + bits(n, 16) + bits(origin, 16) + bits(check, 32);
    }

    /** A tape of 'n' bytes 255. */
    private static SortTransform tapeOf(int n) {
        SortTransform x = empty();
        int left = n;
        while (left > 0) {
            x.tape(-1L, Math.min(8, left));
            left -= Math.min(8, left);
        }
        return x;
    }

    // ---- 19: "OUT is THE STREAM of THE BLOCK: how many bytes."

    /** "if n is above 0": of no bytes there is nothing behind THE CHECK, and the ORIGIN is 0. */
    void p19OfNoBytes() {
        outIs("no bytes", empty(), head(0, 0, 0));
    }

    /** The least row with a list: 0s fill the last byte. */
    void p19OfOneByte() {
        // Sixteenth 6 (its bit is the seventh), byte 1 of it; LENGTHS 2, 2, 1; CODES 10 and 0.
        outIs("a", of("a"), head(1, 0, PlainModel.checkOf(List.of(97)))
                + "0000001000000000" + "0100000000000000" + "0010" + "0" + "0" + "110" + "10" + "0" + "0000");
    }

    /** "0s fill the last byte": where the bits end with a byte there is nothing to fill, and no byte more. */
    void p19NothingToFill() {
        // The turns of ababa in order are aabab, abaab, ababa, baaba, babaa, so that LAST is bbaaa and the ORIGIN 2;
        // 2, 0, 2, 1, END; weights 1, 1, 2, 1: LENGTHS 3, 3, 1, 2, CODES 110, 111, 0, 10.
        String bits = head(5, 2, PlainModel.checkOf(List.of(97, 98, 97, 98, 97))) + "0000001000000000" + "0110000000000000"
                + "0011" + "0" + "0" + "11110" + "100" + "0" + "110" + "0" + "111" + "10";
        is("the bits of ababa end with a byte", bits.length() % 8, 0);
        outIs("ababa", of("ababa"), bits);
    }

    /** "which sixteenths of 0 .. 255 have bytes in THE LIST (the first one highest)": the first one and the last. */
    void p19FirstAndLastSixteenth() {
        String behind = "0010" + "0" + "0" + "110" + "10" + "0" + "0000";
        outIs("0", filled(1, 0), head(1, 0, 0xB1F7404B) + "1000000000000000" + "1000000000000000" + behind);
        outIs("255", filled(1, 255), head(1, 0, 255) + "0000000000000001" + "0000000000000001" + behind);
        outIs("15", filled(1, 15), head(1, 0, PlainModel.checkOf(List.of(15)))
                + "1000000000000000" + "0000000000000001" + behind);
        outIs("16", filled(1, 16), head(1, 0, PlainModel.checkOf(List.of(16)))
                + "0100000000000000" + "1000000000000000" + behind);
    }

    /** All sixteenths with all bytes. */
    void p19AllBytesInTheList() {
        SortTransform x = empty();
        for (int b = 0; b < 256; b++) {
            x.feed(b, 1);
        }
        x.write();
        is("n, high", x.out(2), 1);
        is("n, low", x.out(3), 0);
        for (int i = 10; i < 44; i++) {
            is("out(" + i + ")", x.out(i), 255);
        }
    }

    /** "n, how many bytes PACKED has", not THE BLOCK: fewer of a long run, more of short ones, 750 at most. */
    void p19CountOfPacked() {
        SortTransform run = filled(ROOM, 7);
        run.write();
        is("n of 600 like ones, high", run.out(2), 0);
        is("n of 600 like ones, low", run.out(3), 15);
        SortTransform four = filled(4, 7);
        four.write();
        is("n of four like ones", four.out(3), 5);
        SortTransform most = empty();
        for (int i = 0; i < 150; i++) {
            most.fill(4, i);
        }
        most.write();
        is("n of the most, high", most.out(2), 750 / 256);
        is("n of the most, low", most.out(3), 750 % 256);
    }

    /** "the ORIGIN is of PACKED": 4 of aaaa0, where aaaa has 0; up to the last place of a long row. */
    void p19OriginOfPacked() {
        SortTransform x = of("aaaa");
        is("origin() of aaaa", x.origin(), 0);
        x.write();
        is("the ORIGIN in OUT, high", x.out(4), 0);
        is("the ORIGIN in OUT, low", x.out(5), 4);
        SortTransform wide = empty();
        for (int i = 0; i < 75; i++) {
            feed(wide, "babababa");
        }
        wide.write();
        // baba .. goes round: its turn 0 is the first behind all that begin with a.
        is("the ORIGIN 300, high", wide.out(4), 300 / 256);
        is("the ORIGIN 300, low", wide.out(5), 300 % 256);
    }

    /** "THE CHECK of THE BLOCK", not of PACKED, its highest byte first. */
    void p19CheckOfTheBlock() {
        SortTransform x = filled(4, 255);
        x.write();
        for (int i = 6; i < 10; i++) {
            is("out(" + i + ")", x.out(i), 255);
        }
        is("n", x.out(3), 5);
    }

    /** "10 while it is more than what is at hand .. 11 while it is less, then 0": no step, two down, one up. */
    void p19LengthsUpAndDown() {
        List<Integer> row = List.of(97, 98);
        outIs("ab", of("ab"), head(2, 0, PlainModel.checkOf(row)) + "0000001000000000" + "0110000000000000"
                // LAST is ba: 2, 2, END; LENGTHS 3, 3, 1, 2.
                + "0011" + "0" + "0" + "11110" + "100" + "0" + "0" + "10" + "000000");
    }

    /** "4 bits the LENGTH of SYMBOL 0": where SYMBOL 1 has another one. */
    void p19LengthOfSymbolNought() {
        // LAST is aaa: digits 1 and 1, END; weights 2, 1, 1: LENGTHS 1, 2, 2, CODES 0, 10, 11.
        outIs("aaa", of("aaa"), head(3, 0, PlainModel.checkOf(List.of(97, 97, 97))) + "0000001000000000"
                + "0100000000000000" + "0001" + "0" + "100" + "0" + "0" + "0" + "11" + "000");
    }

    /** "0s fill the last byte": from none to seven of them. */
    void p19AnyFilling() {
        boolean[] met = new boolean[8];
        for (String text : new String[] {"a", "b", "aa", "ab", "aab", "abc", "aaab", "aabb", "aabc", "abcd", "ababa",
            "aaaa", "abcbac", "abcde", "aabbcc", "mississippi", "banana"}) {
            String bits = PlainModel.streamBits(text.chars().boxed().toList());
            met[(8 - bits.length() % 8) % 8] = true;
            outIs(text, of(text), bits);
        }
        for (int filling = 0; filling < 8; filling++) {
            is("some end with " + filling + " bits that fill", met[filling] ? 1 : 0, 1);
        }
    }

    /** A row of some 400 bytes with eleven kinds, by the model. */
    void p19LongLengths() {
        SortTransform x = SymbolEdges.risingBlock();
        StringBuilder text = new StringBuilder();
        for (int i = 0; i < 374; i++) {
            text.append((char) x.octet(i));
        }
        List<Integer> row = text.chars().boxed().toList();
        outIs("rising weights", x, PlainModel.streamBits(row));
    }

    /**
     * "If one is above 12: each weight w becomes w / 2 + 1": SYMBOLS 0 .. 13 stand 90, 1 (or not), 234, 144, 55, 34, 21,
     * 3, 1, 13, 5, 2, 8, 1 times, by which some have the LENGTH 13; by the halves none has more than 8.
     */
    void p19LengthsAboveTwelve() {
        StringBuilder text = new StringBuilder();
        for (char b : FAR_WEIGHTS.toCharArray()) {
            text.append((char) (b - 'a' + 1));
        }
        SortTransform x = of(text.toString());
        List<Integer> row = text.chars().boxed().toList();
        List<Integer> symbols = PlainModel.symbolsOf(PlainModel.lastOf(PlainModel.packOf(row)));
        is("the weights are halved", PlainModel.isHalved(symbols) ? 1 : 0, 1);
        outIs("far weights", x, PlainModel.streamBits(row));
        // Bytes 0 .. 11 are in THE LIST, so that the LENGTHS begin at byte 14.
        String lengths = PlainModel.lengthBits(new int[] {3, 8, 2, 2, 3, 4, 4, 6, 8, 5, 6, 6, 5, 7});
        List<Integer> bytes = PlainModel.bytesOf(lengths.substring(0, lengths.length() / 8 * 8));
        is("out(10)", x.out(10), 0x80);
        is("out(13)", x.out(13), 0xF0);
        for (int i = 0; i < bytes.size(); i++) {
            is("LENGTHS: out(" + (14 + i) + ")", x.out(14 + i), bytes.get(i));
        }
        x.take();
        x.clear();
        is("read()", x.read(), ROOM);
    }

    /** THE BLOCK stays, and so do the order of its turns and its SYMBOLS, which are not those of PACKED. */
    void p19BlockStays() {
        SortTransform x = of("aaaaab");
        is("order(5)", x.order(5), 5);
        is("symbol(0)", x.symbol(0), 0);
        x.write();
        blockIs("behind write()", x, "aaaaab");
        is("order(5) behind write()", x.order(5), 5);
        is("order(6) behind write()", x.order(6), NONE);
        is("symbol(0) behind write()", x.symbol(0), 0);
        is("origin() behind write()", x.origin(), 0);
    }

    /** OUT is another one only by write(): not by a change of THE BLOCK. */
    void p19OutStaysUntilWritten() {
        SortTransform x = of("ab");
        x.write();
        x.feed('c', 1);
        is("n in OUT", x.out(3), 2);
        x.write();
        is("n in OUT, written again", x.out(3), 3);
    }

    // ---- 20: "Byte i of OUT; NONE."

    /** "NONE": ahead of the first and behind the last. */
    void p20NoSuchPlace() {
        SortTransform x = empty();
        x.write();
        is("out(0)", x.out(0), 83);
        is("out(9)", x.out(9), 0);
        for (int i : new int[] {-1, 10, 11, 3000, LEAST, MOST}) {
            is("out(" + i + ")", x.out(i), NONE);
        }
    }

    /** "NONE": ahead of the first write(). */
    void p20AheadOfWrite() {
        is("out(0)", of("banana").out(0), NONE);
    }

    /** "NONE": of a longer OUT before nothing is left behind a shorter one. */
    void p20ShorterThanBefore() {
        SortTransform x = of("banana");
        is("write() of banana", x.write(), 18);
        x.clear();
        is("write() of no bytes", x.write(), 10);
        is("out(10)", x.out(10), NONE);
        is("out(17)", x.out(17), NONE);
    }

    // ---- 21: "The n lowest bytes of a long (1 .. 8), the lowest first, come behind THE TAPE: how many it has. BAD; FULL."

    /** "1 .. 8": one byte is the least. */
    void p21OneByte() {
        SortTransform x = empty();
        is("tape(0x4241, 1)", x.tape(0x4241, 1), 1);
        tapeIs("one byte", x, 0x41);
    }

    /** "1 .. 8": eight are the most; "the lowest first", without a sign. */
    void p21EightBytes() {
        SortTransform x = empty();
        is("tape(.., 8)", x.tape(0xF807060504030201L, 8), 8);
        tapeIs("eight bytes", x, 1, 2, 3, 4, 5, 6, 7, 0xF8);
    }

    /** "BAD": fewer than one, more than eight; THE TAPE stays. */
    void p21NoSuchManyIsBad() {
        for (int n : new int[] {0, -1, 9, LEAST, MOST}) {
            SortTransform x = empty();
            x.tape(0x0201, 2);
            is("tape(1, " + n + ")", x.tape(1, n), BAD);
            tapeIs("behind tape(1, " + n + ")", x, 1, 2);
        }
    }

    /** "up to 3000 bytes": the 3000th has room, by itself and as the last of eight. */
    void p21RoomForThreeThousand() {
        is("tape(1, 1) behind 2999", tapeOf(2999).tape(1, 1), TAPE_ROOM);
        is("tape(1, 8) behind 2992", tapeOf(2992).tape(1, 8), TAPE_ROOM);
    }

    /** "FULL": one more has none. */
    void p21FullBehindThreeThousand() {
        SortTransform x = tapeOf(TAPE_ROOM);
        is("tape(1, 1) behind 3000", x.tape(1, 1), FULL);
        is("spoil(2999, 0)", x.spoil(2999, 0), 255);
        is("spoil(3000, 0)", x.spoil(3000, 0), BAD);
        is("cut(3000)", x.cut(TAPE_ROOM), TAPE_ROOM);
    }

    /** "FULL": not even those come that would have room. */
    void p21FullBringsNothing() {
        SortTransform x = tapeOf(2993);
        is("tape(1, 8) behind 2993", x.tape(1, 8), FULL);
        is("spoil(2993, 0)", x.spoil(2993, 0), BAD);
        is("tape(1, 7) behind 2993", x.tape(1, 7), TAPE_ROOM);
    }

    /** "BAD; FULL.": what is not 1 .. 8 is BAD even if there is no room. */
    void p21BadIsAheadOfFull() {
        is("tape(1, 9) behind 3000", tapeOf(TAPE_ROOM).tape(1, 9), BAD);
        is("tape(1, 0) behind 3000", tapeOf(TAPE_ROOM).tape(1, 0), BAD);
    }

    /** THE TAPE is not THE BLOCK: neither gets the other's bytes. */
    void p21TapeIsNotTheBlock() {
        SortTransform x = of("ab");
        x.tape(1, 1);
        blockIs("behind tape", x, "ab");
        tapeIs("the tape", x, 1);
    }

    // ---- 22: "THE TAPE gets OUT's bytes: how many."

    /** OUT is empty: none. */
    void p22OutIsEmpty() {
        SortTransform x = of("banana");
        is("take()", x.take(), 0);
        is("cut(0)", x.cut(0), 0);
        is("read()", x.read(), -11);
    }

    /** The least OUT has ten bytes, of no bytes. */
    void p22LeastOut() {
        SortTransform x = empty();
        x.write();
        is("take()", x.take(), 10);
        tapeIs("of no bytes", x, 83, 84, 0, 0, 0, 0, 0, 0, 0, 0);
    }

    /** THE TAPE then has OUT's bytes, and none that it had before; so it can never be FULL. */
    void p22TapeHasOnlyThese() {
        SortTransform x = tapeOf(TAPE_ROOM);
        x.write();
        is("take()", x.take(), 10);
        is("take() again", x.take(), 10);
        is("cut(10)", x.cut(10), 10);
    }

    /** OUT stays, and is not changed by what happens to THE TAPE. */
    void p22OutStays() {
        SortTransform x = empty();
        x.write();
        x.take();
        x.spoil(0, 255);
        x.cut(1);
        is("out(0)", x.out(0), 83);
        is("out(9)", x.out(9), 0);
        is("take()", x.take(), 10);
        is("spoil(0, 0)", x.spoil(0, 0), 83);
    }

    // ---- 23: "A byte of THE TAPE is joined (xor) with a mask (0 .. 255): what it is. BAD."

    /** "a mask (0 .. 255)": 0 changes nothing, 255 turns all bits. */
    void p23LeastAndMostMask() {
        SortTransform x = empty();
        x.tape(0x0FF1, 2);
        is("spoil(0, 0)", x.spoil(0, 0), 0xF1);
        is("spoil(0, 255)", x.spoil(0, 255), 0x0E);
        tapeIs("behind it", x, 0x0E, 0x0F);
    }

    /** "BAD": what is no mask; THE TAPE stays. */
    void p23NoMaskIsBad() {
        for (int mask : new int[] {-1, 256, LEAST, MOST}) {
            SortTransform x = empty();
            x.tape(0x0FF1, 2);
            is("spoil(0, " + mask + ")", x.spoil(0, mask), BAD);
            tapeIs("behind it", x, 0xF1, 0x0F);
        }
    }

    /** "BAD": no such byte; the last one is there. */
    void p23NoSuchByte() {
        SortTransform x = empty();
        x.tape(0x0FF1, 2);
        for (int i : new int[] {-1, 2, 3000, LEAST, MOST}) {
            is("spoil(" + i + ", 1)", x.spoil(i, 1), BAD);
        }
        is("spoil(1, 1)", x.spoil(1, 1), 0x0E);
    }

    /** "BAD": of an empty TAPE, a new one, a cut one and one that has been read. */
    void p23EmptyTape() {
        is("spoil(0, 1) of a new one", empty().spoil(0, 1), BAD);
        SortTransform cut = tapeOf(3);
        cut.cut(0);
        is("spoil(0, 1) behind cut(0)", cut.spoil(0, 1), BAD);
        SortTransform read = tapeOf(3);
        read.read();
        is("spoil(0, 1) behind read()", read.spoil(0, 1), BAD);
    }

    /** The last byte of a full TAPE. */
    void p23FullTape() {
        SortTransform x = tapeOf(TAPE_ROOM);
        is("spoil(2999, 254)", x.spoil(2999, 254), 1);
        is("spoil(3000, 254)", x.spoil(3000, 254), BAD);
    }

    // ---- 24: "THE TAPE keeps its first n bytes: how many it had. BAD."

    /** It keeps none, and all. */
    void p24NoneAndAll() {
        SortTransform all = empty();
        all.tape(0x030201, 3);
        is("cut(3)", all.cut(3), 3);
        tapeIs("behind cut(3)", all, 1, 2, 3);
        is("cut(0)", all.cut(0), 3);
        is("cut(0) again", all.cut(0), 0);
    }

    /** "its first n bytes: how many it had": not how many it has. */
    void p24FirstBytes() {
        SortTransform x = empty();
        x.tape(0x030201, 3);
        is("cut(2)", x.cut(2), 3);
        tapeIs("behind cut(2)", x, 1, 2);
    }

    /** "BAD": fewer than none. */
    void p24TooFewIsBad() {
        for (int n : new int[] {-1, LEAST}) {
            SortTransform x = empty();
            x.tape(0x0201, 2);
            is("cut(" + n + ")", x.cut(n), BAD);
            tapeIs("behind cut(" + n + ")", x, 1, 2);
        }
    }

    /** "BAD": more than it has; nothing of what was cut comes again. */
    void p24TooManyIsBad() {
        for (int n : new int[] {2, 3, 3000, 3001, MOST}) {
            SortTransform x = empty();
            x.tape(0x0201, 2);
            x.cut(1);
            is("cut(" + n + ")", x.cut(n), BAD);
            tapeIs("behind cut(" + n + ")", x, 1);
        }
        is("cut(1) of an empty one", empty().cut(1), BAD);
    }

    /** A full TAPE has room again. */
    void p24FullTape() {
        SortTransform x = tapeOf(TAPE_ROOM);
        is("cut(2999)", x.cut(2999), TAPE_ROOM);
        is("tape(1, 2)", x.tape(1, 2), FULL);
        is("tape(1, 1)", x.tape(1, 1), TAPE_ROOM);
    }

    /** OUT and THE BLOCK stay. */
    void p24OthersStay() {
        SortTransform x = of("ab");
        x.write();
        x.take();
        x.cut(0);
        is("out(0)", x.out(0), 83);
        blockIs("behind cut(0)", x, "ab");
    }
}
