/** Edges of SYMBOLS, LENGTHS and CODES of THE BLOCK as it stands: promises 16 to 18. */
final class SymbolEdges extends Edges {

    private void symbolsAre(String what, SortTransform x, int... symbols) {
        for (int i = 0; i < symbols.length; i++) {
            is(what + ": symbol(" + i + ")", x.symbol(i), symbols[i]);
        }
        is(what + ": symbol behind the END", x.symbol(symbols.length), NONE);
    }

    private void symbolsAre(String text, int... symbols) {
        symbolsAre(text, of(text), symbols);
    }

    private void lengthsAre(String what, SortTransform x, int... lengths) {
        for (int symbol = 0; symbol < lengths.length; symbol++) {
            is(what + ": code(" + symbol + ", 0)", x.code(symbol, 0), lengths[symbol]);
        }
        is(what + ": code behind the END", x.code(lengths.length, 0), BAD);
    }

    private void codesAre(String what, SortTransform x, int... codes) {
        for (int symbol = 0; symbol < codes.length; symbol++) {
            is(what + ": code(" + symbol + ", 1)", x.code(symbol, 1), codes[symbol]);
        }
        is(what + ": code behind the END", x.code(codes.length, 1), BAD);
    }

    private static SortTransform allBytesFalling() {
        SortTransform x = empty();
        for (int b = 255; b >= 0; b--) {
            x.feed(b, 1);
        }
        return x;
    }

    // ---- 16: "SYMBOL i of its bytes as they stand; NONE behind the END."

    /** "NONE behind the END": and ahead of the first. */
    void p16NoSuchSymbol() {
        SortTransform x = of("ba");
        symbolsAre("ba", x, 2, 2, 3);
        for (int i : new int[] {-1, 3, 4, 600, LEAST, MOST}) {
            is("symbol(" + i + ") of ba", x.symbol(i), NONE);
        }
    }

    /** Of no bytes there is the END alone: "how many bytes THE LIST has, and one". */
    void p16OfNoBytes() {
        symbolsAre("no bytes", empty(), 1);
    }

    /** The least row: one byte is a nought, its END is 2. */
    void p16OfOneByte() {
        symbolsAre("q", 0, 2);
    }

    /** "the count with digits 1 and 2 .. lowest first": where a digit more is needed, and where it is not. */
    void p16DigitsOfRuns() {
        symbolsAre("aa", 1, 2);
        symbolsAre("aaa", 0, 0, 2);
        symbolsAre("aaaa", 1, 0, 2);
        symbolsAre("aaaaa", 0, 1, 2);
        symbolsAre("aaaaaa", 1, 1, 2);
        symbolsAre("aaaaaaa", 0, 0, 0, 2);
        symbolsAre("fourteen", filled(14, 'a'), 1, 1, 1, 2);
        symbolsAre("fifteen", filled(15, 'a'), 0, 0, 0, 0, 2);
    }

    /** The longest row of noughts: 600 = 2 + 2*1 + 4*1 + 8*2 + 16*2 + 32*1 + 64*2 + 128*1 + 256*1. */
    void p16LongestRun() {
        symbolsAre("600 like ones", filled(ROOM, 5), 1, 0, 0, 1, 1, 0, 1, 0, 0, 2);
    }

    /** "each row of z noughts, as long as can be": it ends at another number, and the next begins anew. */
    void p16RunsEndAtOtherNumbers() {
        symbolsAre("aabbb", 1, 2, 1, 3);
        symbolsAre("abaa", 0, 2, 2, 0, 3);
    }

    /** "THE LIST are the bytes that it has, rising": the first byte is a nought only if it is the least. */
    void p16ListRises() {
        symbolsAre("ab", 0, 2, 3);
        symbolsAre("cba", 3, 3, 3, 4);
        symbolsAre("0 and 255", of("\u00ff\u0000"), 2, 2, 3);
    }

    /** THE LIST with all 256 bytes: the last place is SYMBOL 256, the END is 257. */
    void p16AllBytes() {
        SortTransform x = allBytesFalling();
        is("symbol(0)", x.symbol(0), 256);
        is("symbol(255)", x.symbol(255), 256);
        is("symbol(256), the END", x.symbol(256), 257);
        is("symbol(257)", x.symbol(257), NONE);
    }

    /** A full block without noughts has the most: 600 and the END. */
    void p16MostSymbols() {
        SortTransform x = empty();
        for (int i = 0; i < 75; i++) {
            feed(x, "babababa");
        }
        is("symbol(0)", x.symbol(0), 2);
        is("symbol(599)", x.symbol(599), 2);
        is("symbol(600), the END", x.symbol(600), 3);
        is("symbol(601)", x.symbol(601), NONE);
    }

    /** "of its bytes as they stand": not of PACKED, not of LAST. */
    void p16AsTheyStand() {
        symbolsAre("aaaab", 1, 0, 2, 3);
        symbolsAre("abab", 0, 2, 2, 2, 3);
        SortTransform x = of("abab");
        x.write();
        x.take();
        x.read();
        symbolsAre("abab behind write() and read()", x, 0, 2, 2, 2, 3);
    }

    // ---- 17: "Of a SYMBOL: its LENGTH (what = 0), its CODE (1). BAD: none such."

    /** "BAD: none such": SYMBOLS are 0 .. END. */
    void p17NoSuchSymbol() {
        for (int symbol : new int[] {-1, 5, 6, LEAST, MOST}) {
            is("code(" + symbol + ", 0)", of("banana").code(symbol, 0), BAD);
            is("code(" + symbol + ", 1)", of("banana").code(symbol, 1), BAD);
        }
        is("code of the END", of("banana").code(4, 0), 3);
    }

    /** "BAD": what is not 0 or 1. */
    void p17NoSuchWhat() {
        for (int what : new int[] {-1, 2, LEAST, MOST}) {
            is("code(0, " + what + ")", of("banana").code(0, what), BAD);
        }
    }

    /** "0 counts as 1": SYMBOLS that do not stand have LENGTHS and CODES, too. */
    void p17SymbolsThatDoNotStand() {
        // Weights 1, 1, 2, 1: SYMBOLS 0 and 1 are joined first.
        lengthsAre("ba", of("ba"), 3, 3, 1, 2);
        codesAre("ba", of("ba"), 6, 7, 0, 2);
    }

    /** Of no bytes there are SYMBOLS 0 and 1, the END. */
    void p17OfNoBytes() {
        lengthsAre("no bytes", empty(), 1, 1);
        codesAre("no bytes", empty(), 0, 1);
    }

    /** "of like weights those come first that hold the lesser least SYMBOL" */
    void p17LikeWeights() {
        // Weights 1, 1, 1: 0 and 1 first.
        lengthsAre("a", of("a"), 2, 2, 1);
        // Weights 1, 1, 1, 1 of 0, 2 and the END: 0 with 1, then 2 with 3.
        lengthsAre("ab", of("ab"), 2, 2, 2, 2);
        // Weights 1, 1, 3, 1, of which 0 and 1 make 2; then 3 goes with these, as 2 is heavier.
        lengthsAre("bab", of("bab"), 3, 3, 1, 2);
        // Weights 1, 1, 5, 1, 1: 0 1 make 2, 3 4 make 2, these two make 4, and that goes with 2.
        lengthsAre("banana", of("banana"), 3, 3, 1, 3, 3);
        // Weights 1, 1, 2, 1, of which 0 1 make 2 as 2 has: what holds 0 comes first, with 3.
        lengthsAre("aba", of("aba"), 3, 3, 1, 2);
    }

    /** "CODES: .. the first is all 0": the next is one more, with 0s behind it, and the last is all 1. */
    void p17FirstAndLastCode() {
        codesAre("a", of("a"), 2, 3, 0);
        codesAre("ab", of("ab"), 0, 1, 2, 3);
        codesAre("banana", of("banana"), 4, 5, 0, 6, 7);
    }

    /** LENGTHS are of THE BLOCK as it is: many SYMBOLS, few, and many again on one object. */
    void p17OfAnotherBlock() {
        SortTransform x = of("a");
        lengthsAre("a", x, 2, 2, 1);
        feed(x, "ba");
        lengthsAre("aba", x, 3, 3, 1, 2);
        x.clear();
        feed(x, "banana");
        lengthsAre("banana", x, 3, 3, 1, 3, 3);
        x.clear();
        lengthsAre("no bytes", x, 1, 1);
        x.fill(3, 'a');
        lengthsAre("aaa", x, 1, 2, 2);
    }

    /** THE LIST with all 256 bytes has 258 SYMBOLS. */
    void p17AllBytes() {
        SortTransform x = allBytesFalling();
        is("code(256, 0)", x.code(256, 0), 1);
        is("code(256, 1)", x.code(256, 1), 0);
        // 257 weights of 1 are joined in eight rounds, and one of them stands a round longer.
        is("code(257, 0)", x.code(257, 0), 9);
        is("code(0, 0)", x.code(0, 0), 10);
        is("code(1, 0)", x.code(1, 0), 10);
        is("code(1, 1)", x.code(1, 1), 1023);
        is("code(258, 0)", x.code(258, 0), BAD);
    }

    /**
     * "If one is above 12": a LENGTH of 12 is not. SYMBOLS 2 .. 11 stand 144, 89 .. 3, 2 times, 0 and 1 do not stand:
     * each joining is of all that has been joined and the next one.
     */
    void p17LongestLength() {
        SortTransform x = risingBlock();
        is("symbol(0)", x.symbol(0), 2);
        is("symbol(373)", x.symbol(373), 11);
        is("symbol(374), the END", x.symbol(374), 12);
        lengthsAre("rising weights", x, 12, 12, 1, 2, 3, 4, 5, 6, 7, 8, 9, 10, 11);
        codesAre("rising weights", x, 4094, 4095, 0, 2, 6, 14, 30, 62, 126, 254, 510, 1022, 2046);
        // 1 * 144 + 2 * 89 + 3 * 55 + 4 * 34 + 5 * 21 + 6 * 13 + 7 * 8 + 8 * 5 + 9 * 3 + 10 * 2 + 11.
        is("bits()", x.bits(), 960);
    }

    /** The bytes whose numbers are 1 (144 times), 2 (89 times) .. 9 (three times), 10 (twice) in a list of eleven. */
    static SortTransform risingBlock() {
        SortTransform x = empty();
        StringBuilder list = new StringBuilder("abcdefghijk");
        StringBuilder row = new StringBuilder();
        int[] times = {144, 89, 55, 34, 21, 13, 8, 5, 3, 2};
        for (int place = 1; place <= 10; place++) {
            for (int i = 0; i < times[place - 1]; i++) {
                char b = list.charAt(place);
                list.deleteCharAt(place).insert(0, b);
                row.append(b);
            }
        }
        feed(x, row.toString());
        return x;
    }

    // ---- 18: "How many bits all CODES of its SYMBOLS have."

    /** Of no bytes: the END alone. */
    void p18OfNoBytes() {
        is("bits()", empty().bits(), 1);
    }

    /** Of one byte: two bits of its nought, and one of the END. */
    void p18OfOneByte() {
        is("bits()", of("q").bits(), 3);
    }

    /** "all CODES of its SYMBOLS": each as often as it stands, those that do not stand not at all. */
    void p18SymbolsThatStand() {
        // 2, 2 and the END; 0 and 1, of three bits each, do not stand.
        is("bits() of ba", of("ba").bits(), 4);
        // 1 0 0 1 1 0 1 0 0 and the END: weights 5, 4, 1.
        is("bits() of 600 like ones", filled(ROOM, 1).bits(), 15);
    }

    /** A full block with the most SYMBOLS: 600 of one bit, and two of the END. */
    void p18MostSymbols() {
        SortTransform x = empty();
        for (int i = 0; i < 75; i++) {
            feed(x, "babababa");
        }
        is("bits()", x.bits(), 602);
    }
}
