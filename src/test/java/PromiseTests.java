/** Each promise of the document by itself: ordinary inputs, the edges that it names, and wrong inputs. */
public final class PromiseTests {
    private static final int BAD = -1, NONE = -2, FULL = -3;
    private static final int LEAST = Integer.MIN_VALUE, MOST = Integer.MAX_VALUE;
    private final Due due = new Due();

    public static void main(String[] args) {
        PromiseTests tests = new PromiseTests();
        tests.constants();
        tests.newObject();
        tests.feed();
        tests.fill();
        tests.clear();
        tests.octet();
        tests.pack();
        tests.packed();
        tests.order();
        tests.last();
        tests.origin();
        tests.rounds();
        tests.start();
        tests.steps();
        tests.back();
        tests.ring();
        tests.symbol();
        tests.code();
        tests.bits();
        tests.write();
        tests.out();
        tests.tape();
        tests.take();
        tests.spoil();
        tests.cut();
        tests.read();
        tests.faultAt();
        tests.check();
        tests.due.end("PromiseTests");
    }

    private static SortTransform of(String text) {
        SortTransform x = new SortTransform();
        feedText(x, text);
        return x;
    }

    private static void feedText(SortTransform x, String text) {
        for (int i = 0; i < text.length(); i++) {
            x.feed(text.charAt(i), 1);
        }
    }

    private static long word(String text) {
        long bytes = 0;
        for (int i = 0; i < text.length(); i++) {
            bytes = bytes << 8 | text.charAt(i);
        }
        return bytes;
    }

    private void blockIs(String what, SortTransform x, String text) {
        for (int i = 0; i < text.length(); i++) {
            due.is(what + ": octet(" + i + ")", x.octet(i), text.charAt(i));
        }
        due.is(what + ": behind it", x.octet(text.length()), NONE);
    }

    private void constants() {
        due.is("BAD", SortTransform.BAD, BAD);
        due.is("NONE", SortTransform.NONE, NONE);
        due.is("FULL", SortTransform.FULL, FULL);
    }

    private void newObject() {
        SortTransform x = new SortTransform();
        due.is("1: octet(0)", x.octet(0), NONE);
        due.is("1: pack()", x.pack(), 0);
        due.is("1: packed(0)", x.packed(0), NONE);
        due.is("1: order(0)", x.order(0), NONE);
        due.is("1: last(0)", x.last(0), NONE);
        due.is("1: out(0)", x.out(0), NONE);
        due.is("1: take()", x.take(), 0);
        due.is("1: cut(0)", x.cut(0), 0);
        due.is("1: spoil(0, 0)", x.spoil(0, 0), BAD);
        due.is("1: faultAt()", x.faultAt(), NONE);
        due.is("1: clear()", x.clear(), 0);
        due.is("1: check()", x.check(), 0);
        SortTransform other = of("abc");
        due.is("1: objects share nothing", x.octet(0), NONE);
        due.is("1: the other one has its bytes", other.octet(2), 'c');
    }

    private void feed() {
        SortTransform x = new SortTransform();
        due.is("2: three of eight", x.feed(0x0807060504030201L, 3), 3);
        blockIs("2: the lowest first", x, "\u0001\u0002\u0003");
        due.is("2: eight", x.feed(-2L, 8), 11);
        due.is("2: lowest byte of -2", x.octet(3), 254);
        due.is("2: highest byte of -2", x.octet(10), 255);
        for (int n : new int[] {0, -1, 9, LEAST, MOST}) {
            due.is("2: feed(1, " + n + ")", x.feed(1, n), BAD);
        }
        due.is("2: fill(585, 9)", x.fill(585, 9), 596);
        due.is("2: five more have no room", x.feed(5, 5), FULL);
        due.is("2: BAD is ahead of FULL", x.feed(5, 9), BAD);
        due.is("2: nothing of them came", x.octet(596), NONE);
        due.is("2: four more have", x.feed(5, 4), 600);
        due.is("2: one more has none", x.feed(5, 1), FULL);
        due.is("2: the last byte", x.octet(599), 0);
    }

    private void fill() {
        SortTransform x = of("a");
        due.is("3: fill(3, 255)", x.fill(3, 255), 4);
        blockIs("3: behind what is there", x, "a\u00ff\u00ff\u00ff");
        due.is("3: fill(1, 0)", x.fill(1, 0), 5);
        int[][] wrong = {{0, 1}, {-1, 1}, {601, 1}, {1, -1}, {1, 256}, {LEAST, 0}, {MOST, 0}, {1, LEAST}, {1, MOST}};
        for (int[] args : wrong) {
            due.is("3: fill(" + args[0] + ", " + args[1] + ")", x.fill(args[0], args[1]), BAD);
        }
        due.is("3: fill(600, 1) behind five", x.fill(600, 1), FULL);
        due.is("3: fill(596, 1) behind five", x.fill(596, 1), FULL);
        due.is("3: nothing came", x.octet(5), NONE);
        due.is("3: fill(595, 1)", x.fill(595, 1), 600);
        due.is("3: fill(1, 1)", x.fill(1, 1), FULL);
        due.is("3: fill(600, 7) of an empty block", new SortTransform().fill(600, 7), 600);
    }

    private void clear() {
        SortTransform x = of("abcab");
        x.write();
        x.take();
        due.is("4: clear()", x.clear(), 5);
        due.is("4: octet(0)", x.octet(0), NONE);
        due.is("4: origin()", x.origin(), NONE);
        due.is("4: clear() again", x.clear(), 0);
        due.is("4: OUT stays", x.out(0), 83);
        due.is("4: THE TAPE stays", x.read(), 5);
        blockIs("4: read again", x, "abcab");
    }

    private void octet() {
        SortTransform x = of("xyz");
        blockIs("5", x, "xyz");
        for (int i : new int[] {-1, 3, 600, LEAST, MOST}) {
            due.is("5: octet(" + i + ")", x.octet(i), NONE);
        }
    }

    private void pack() {
        int[][] sizes = {{1, 1}, {3, 3}, {4, 5}, {5, 5}, {255, 5}, {256, 6}, {258, 8}, {259, 10}, {510, 10}, {600, 15}};
        for (int[] size : sizes) {
            SortTransform x = new SortTransform();
            x.fill(size[0], 7);
            due.is("6: pack() of " + size[0], x.pack(), size[1]);
            due.is("6: the block stays", x.clear(), size[0]);
        }
        SortTransform x = of("aaab");
        due.is("6: no run", x.pack(), 4);
        feedText(x, "bbb");
        due.is("6: a run at the end", x.pack(), 8);
        x.clear();
        for (int i = 0; i < 150; i++) {
            x.fill(4, i);
        }
        due.is("6: the most", x.pack(), 750);
        due.is("6: its last byte", x.packed(749), 0);
    }

    private void packed() {
        SortTransform x = of("aaaaaabbbbaccccc");
        int[] want = {'a', 'a', 'a', 'a', 2, 'b', 'b', 'b', 'b', 0, 'a', 'c', 'c', 'c', 'c', 1};
        for (int i = 0; i < want.length; i++) {
            due.is("7: packed(" + i + ")", x.packed(i), want[i]);
        }
        for (int i : new int[] {-1, want.length, LEAST, MOST}) {
            due.is("7: packed(" + i + ")", x.packed(i), NONE);
        }
        x.feed('c', 1);
        due.is("7: packed(15) of a longer run", x.packed(15), 2);
        x.clear();
        x.fill(257, 251);
        int[] wide = {251, 251, 251, 251, 251, 251, 251};
        for (int i = 0; i < wide.length; i++) {
            due.is("7: of 257: packed(" + i + ")", x.packed(i), wide[i]);
        }
        due.is("7: of 257: behind it", x.packed(7), NONE);
        x.clear();
        // A count is no byte of the run behind it.
        x.fill(4, 0);
        feedText(x, "\u0001\u0001\u0001\u0001");
        int[] noughts = {0, 0, 0, 0, 0, 1, 1, 1, 1, 0};
        for (int i = 0; i < noughts.length; i++) {
            due.is("7: of noughts: packed(" + i + ")", x.packed(i), noughts[i]);
        }
    }

    private void order() {
        SortTransform x = of("banana");
        int[] want = {5, 3, 1, 0, 4, 2};
        for (int k = 0; k < 6; k++) {
            due.is("8: order(" + k + ")", x.order(k), want[k]);
        }
        for (int k : new int[] {-1, 6, LEAST, MOST}) {
            due.is("8: order(" + k + ")", x.order(k), NONE);
        }
        x.feed('a', 1);
        due.is("8: the block has changed", x.order(0), 5);
        due.is("8: order(6) then", x.order(6), 2);
        SortTransform like = of("bababa");
        int[] byPlace = {1, 3, 5, 0, 2, 4};
        for (int k = 0; k < 6; k++) {
            due.is("8: like ones by place: order(" + k + ")", like.order(k), byPlace[k]);
        }
        SortTransform high = of("\u00ff\u007f\u0080");
        due.is("8: bytes have no sign: order(0)", high.order(0), 1);
        due.is("8: bytes have no sign: order(2)", high.order(2), 0);
        SortTransform all = new SortTransform();
        all.fill(600, 3);
        due.is("8: order(599) of like ones", all.order(599), 599);
    }

    private void last() {
        SortTransform x = of("banana");
        String want = "nnbaaa";
        for (int k = 0; k < 6; k++) {
            due.is("9: last(" + k + ")", x.last(k), want.charAt(k));
        }
        for (int k : new int[] {-1, 6, LEAST, MOST}) {
            due.is("9: last(" + k + ")", x.last(k), NONE);
        }
        due.is("9: of one byte", of("q").last(0), 'q');
    }

    private void origin() {
        due.is("10: banana", of("banana").origin(), 3);
        due.is("10: one byte", of("q").origin(), 0);
        due.is("10: like turns", of("bababa").origin(), 3);
        due.is("10: no bytes", new SortTransform().origin(), NONE);
        SortTransform x = of("ba");
        due.is("10: ba", x.origin(), 1);
        x.write();
        due.is("10: ba, after write()", x.origin(), 1);
    }

    private void rounds() {
        due.is("11: no bytes", new SortTransform().rounds(), NONE);
        due.is("11: one byte", of("a").rounds(), 0);
        due.is("11: all alike", of("aaaaaaa").rounds(), 0);
        due.is("11: all differ", of("abcdefg").rounds(), 0);
        due.is("11: round and round", of("abababab").rounds(), 0);
        due.is("11: aab", of("aab").rounds(), 1);
        due.is("11: aabaab", of("aabaab").rounds(), 1);
        due.is("11: aaab", of("aaab").rounds(), 2);
        due.is("11: aaaab", of("aaaab").rounds(), 2);
        due.is("11: aaaaab", of("aaaaab").rounds(), 3);
        SortTransform x = new SortTransform();
        x.fill(512, 1);
        x.feed(2, 1);
        due.is("11: 512 and one", x.rounds(), 9);
        x.clear();
        x.fill(513, 1);
        x.feed(2, 1);
        due.is("11: 513 and one", x.rounds(), 10);
    }

    private void start() {
        SortTransform x = of("banana");
        int[] want = {3, 2, 5, 1, 4, 0};
        for (int i = 0; i < 6; i++) {
            due.is("12: start(6, " + i + ")", x.start(6, i), want[i]);
        }
        due.is("12: start(1, 0)", x.start(1, 0), 3);
        due.is("12: start(4, 1) is of place 1", x.start(4, 1), 2);
        due.is("12: start(4, 3) is of place 4", x.start(4, 3), 4);
        due.is("12: start(64, 63) is of place 5", x.start(64, 63), 0);
        int[][] wrong = {{0, 0}, {-1, 0}, {65, 0}, {6, -1}, {6, 6}, {64, 64}, {LEAST, 0}, {MOST, 0}, {3, MOST}, {3, LEAST}};
        for (int[] args : wrong) {
            due.is("12: start(" + args[0] + ", " + args[1] + ")", x.start(args[0], args[1]), BAD);
        }
        due.is("12: no bytes", new SortTransform().start(64, 63), NONE);
    }

    private void steps() {
        SortTransform x = of("banana");
        stepsAre(x, "a", 0, 3);
        stepsAre(x, "an", 1, 3);
        stepsAre(x, "ana", 1, 3);
        stepsAre(x, "anan", 2, 3);
        stepsAre(x, "b", 3, 4);
        stepsAre(x, "nabana", 4, 5);
        stepsAre(x, "n", 4, 6);
        stepsAre(x, "nn", NONE, NONE);
        stepsAre(x, "c", NONE, NONE);
        stepsAre(x, "bananab", NONE, NONE);
        due.is("13: higher bits do not count", x.steps(word("xan"), 2, 2), 2);
        SortTransform high = new SortTransform();
        high.fill(9, 255);
        due.is("13: eight bytes 255", high.steps(-1L, 8, 2), 9);
        due.is("13: eight bytes 255, TO", high.steps(-1L, 8, 1), 9);
        for (int n : new int[] {0, -1, 9, LEAST, MOST}) {
            due.is("13: steps(97, " + n + ", 0)", x.steps(97, n, 0), BAD);
        }
        for (int what : new int[] {-1, 3, LEAST, MOST}) {
            due.is("13: steps(97, 1, " + what + ")", x.steps(97, 1, what), BAD);
        }
        SortTransform none = new SortTransform();
        due.is("13: no bytes, how many", none.steps(0, 1, 2), 0);
        due.is("13: no bytes, FROM", none.steps(0, 1, 0), NONE);
        due.is("13: no bytes, TO", none.steps(0, 1, 1), NONE);
        due.is("13: no bytes, BAD", none.steps(0, 1, 3), BAD);
    }

    private void stepsAre(SortTransform x, String text, int from, int to) {
        long bytes = word(text);
        due.is("13: FROM of " + text, x.steps(bytes, text.length(), 0), from);
        due.is("13: TO of " + text, x.steps(bytes, text.length(), 1), to);
        due.is("13: how many of " + text, x.steps(bytes, text.length(), 2), from < 0 ? 0 : to - from);
    }

    private void back() {
        SortTransform x = of("nnbaaa");
        due.is("14: back(3)", x.back(3), 1);
        blockIs("14: back(3)", x, "banana");
        due.is("14: its turns", x.order(0), 5);
        SortTransform other = of("nnbaaa");
        due.is("14: another turn is right, too", other.back(0), 1);
        blockIs("14: back(0)", other, "abanan");
        SortTransform wrong = of("banana");
        due.is("14: not right", wrong.back(3), 0);
        blockIs("14: it becomes that all the same", wrong, "baabaa");
        SortTransform like = of("bbaa");
        due.is("14: like turns, the first", like.back(0), 1);
        blockIs("14: like turns", like, "abab");
        SortTransform second = of("bbaa");
        due.is("14: like turns, not the first", second.back(1), 0);
        blockIs("14: like turns", second, "abab");
        for (int k : new int[] {-1, 4, LEAST, MOST}) {
            due.is("14: back(" + k + ")", second.back(k), BAD);
        }
        blockIs("14: BAD changes nothing", second, "abab");
        due.is("14: no bytes", new SortTransform().back(0), NONE);
        due.is("14: one byte", of("a").back(0), 1);
        due.is("14: aa from 1", of("aa").back(1), 0);
    }

    private void ring() {
        SortTransform x = of("banana");
        // In order aaabnn stand at 1, 3, 5, 0, 2, 4: 0 1 3 is a ring, 2 5 4 another.
        for (int k = 0; k < 6; k++) {
            due.is("15: ring(" + k + ")", x.ring(k), 3);
        }
        SortTransform last = of("nnbaaa");
        due.is("15: of a LAST all are one ring", last.ring(2), 6);
        SortTransform own = of("aba");
        due.is("15: ring(0) of aba", own.ring(0), 1);
        due.is("15: ring(1) of aba", own.ring(1), 2);
        blockIs("15: the block stays", own, "aba");
        for (int k : new int[] {-1, 6, LEAST, MOST}) {
            due.is("15: ring(" + k + ")", x.ring(k), BAD);
        }
        due.is("15: no bytes", new SortTransform().ring(0), BAD);
    }

    private void symbol() {
        symbolsAre("banana", 2, 2, 3, 2, 2, 2, 4);
        symbolsAre("a", 0, 2);
        symbolsAre("aa", 1, 2);
        symbolsAre("aaa", 0, 0, 2);
        symbolsAre("aaaa", 1, 0, 2);
        symbolsAre("aaaaa", 0, 1, 2);
        symbolsAre("aaaaaa", 1, 1, 2);
        symbolsAre("aaaaaaa", 0, 0, 0, 2);
        symbolsAre("abbbaac", 0, 2, 1, 2, 0, 3, 4);
        symbolsAre("cba", 3, 3, 3, 4);
        symbolsAre("", 1);
        SortTransform all = new SortTransform();
        for (int b = 255; b >= 0; b--) {
            all.feed(b, 1);
        }
        due.is("16: all bytes, falling", all.symbol(255), 256);
        due.is("16: the END of all bytes", all.symbol(256), 257);
        due.is("16: far below", all.symbol(LEAST), NONE);
        due.is("16: far above", all.symbol(MOST), NONE);
    }

    private void symbolsAre(String text, int... want) {
        SortTransform x = of(text);
        for (int i = 0; i < want.length; i++) {
            due.is("16: symbol(" + i + ") of " + text, x.symbol(i), want[i]);
        }
        due.is("16: behind the END of " + text, x.symbol(want.length), NONE);
        due.is("16: symbol(-1) of " + text, x.symbol(-1), NONE);
    }

    private void code() {
        SortTransform x = of("banana");
        int[] lengths = {3, 3, 1, 3, 3};
        int[] codes = {4, 5, 0, 6, 7};
        for (int s = 0; s < 5; s++) {
            due.is("17: code(" + s + ", 0)", x.code(s, 0), lengths[s]);
            due.is("17: code(" + s + ", 1)", x.code(s, 1), codes[s]);
        }
        int[][] wrong = {{5, 0}, {5, 1}, {-1, 0}, {0, 2}, {0, -1}, {LEAST, 0}, {MOST, 1}, {0, LEAST}, {0, MOST}};
        for (int[] args : wrong) {
            due.is("17: code(" + args[0] + ", " + args[1] + ")", x.code(args[0], args[1]), BAD);
        }
        // Weights 1, 1, 1: 0 and 1 are joined first, and what they are joined to is heavier than 2.
        SortTransform one = of("a");
        due.is("17: code(0, 0) of a", one.code(0, 0), 2);
        due.is("17: code(1, 0) of a", one.code(1, 0), 2);
        due.is("17: code(2, 0) of a", one.code(2, 0), 1);
        due.is("17: code(0, 1) of a", one.code(0, 1), 2);
        due.is("17: code(1, 1) of a", one.code(1, 1), 3);
        due.is("17: code(2, 1) of a", one.code(2, 1), 0);
        // Weights 2, 1, 1 (of 0 0 2): 1 and 2 are joined, then that and 0.
        SortTransform three = of("aaa");
        due.is("17: code(0, 0) of aaa", three.code(0, 0), 1);
        due.is("17: code(1, 1) of aaa", three.code(1, 1), 2);
        due.is("17: code(2, 1) of aaa", three.code(2, 1), 3);
        SortTransform none = new SortTransform();
        due.is("17: of no bytes the END is 1", none.code(1, 0), 1);
        due.is("17: and its CODE", none.code(1, 1), 1);
        due.is("17: and there is no 2", none.code(2, 0), BAD);
    }

    private void bits() {
        due.is("18: banana", of("banana").bits(), 11);
        due.is("18: a", of("a").bits(), 3);
        due.is("18: aaa", of("aaa").bits(), 4);
        due.is("18: no bytes", new SortTransform().bits(), 1);
        SortTransform x = of("banana");
        x.write();
        due.is("18: banana, after write()", x.bits(), 11);
    }

    private void write() {
        SortTransform x = of("a");
        // 21332, 1, 0, THE CHECK; sixteenth 6; byte 1 of it; LENGTH 2: 0010 0 0 110; codes 10 and 0.
        int check = x.check();
        int[] want = {83, 84, 0, 1, 0, 0, check >>> 24, check >>> 16 & 255, check >>> 8 & 255, check & 255,
            2, 0, 64, 0, 0b00100011, 0b01000000};
        due.is("19: write() of a", x.write(), want.length);
        for (int i = 0; i < want.length; i++) {
            due.is("19: out(" + i + ") of a", x.out(i), want[i]);
        }
        blockIs("19: the block stays", x, "a");
        x.fill(3, 'a');
        due.is("19: OUT stays until write()", x.out(3), 1);
        x.write();
        due.is("19: n is of PACKED", x.out(3), 5);
        x.clear();
        due.is("19: no bytes", x.write(), 10);
        int[] none = {83, 84, 0, 0, 0, 0, 0, 0, 0, 0};
        for (int i = 0; i < none.length; i++) {
            due.is("19: out(" + i + ") of no bytes", x.out(i), none[i]);
        }
        due.is("19: behind it", x.out(10), NONE);
        SortTransform all = new SortTransform();
        for (int b = 255; b >= 0; b--) {
            all.feed(b, 1);
        }
        all.write();
        for (int i = 10; i < 44; i++) {
            due.is("19: all bytes are listed: out(" + i + ")", all.out(i), 255);
        }
    }

    private void out() {
        SortTransform x = of("banana");
        due.is("20: out(0) ahead of write()", x.out(0), NONE);
        int size = x.write();
        due.is("20: out(0)", x.out(0), 83);
        due.is("20: the last byte", x.out(size - 1), 120);
        for (int i : new int[] {-1, size, LEAST, MOST}) {
            due.is("20: out(" + i + ")", x.out(i), NONE);
        }
    }

    private void tape() {
        SortTransform x = new SortTransform();
        due.is("21: two bytes, the lowest first", x.tape(0x5453, 2), 2);
        due.is("21: eight behind them", x.tape(0, 8), 10);
        for (int n : new int[] {0, -1, 9, LEAST, MOST}) {
            due.is("21: tape(1, " + n + ")", x.tape(1, n), BAD);
        }
        due.is("21: the stream of no bytes", x.read(), 0);
        for (int i = 0; i < 374; i++) {
            x.tape(-1L, 8);
        }
        due.is("21: seven more", x.tape(-1L, 7), 2999);
        due.is("21: two more have no room", x.tape(-1L, 2), FULL);
        due.is("21: BAD is ahead of FULL", x.tape(-1L, 9), BAD);
        due.is("21: one more has", x.tape(1, 1), 3000);
        due.is("21: then none has", x.tape(1, 1), FULL);
        due.is("21: the last byte", x.spoil(2999, 0), 1);
        due.is("21: the last byte of the long ones", x.spoil(2998, 0), 255);
        due.is("21: the block has none of it", x.octet(0), NONE);
    }

    private void take() {
        SortTransform x = of("banana");
        due.is("22: OUT is empty", x.take(), 0);
        x.write();
        x.tape(7, 3);
        due.is("22: take()", x.take(), 18);
        due.is("22: it has OUT's bytes alone", x.cut(18), 18);
        due.is("22: the first", x.spoil(0, 0), 83);
        due.is("22: OUT stays", x.out(17), 120);
        due.is("22: take() again", x.take(), 18);
        due.is("22: it is read", x.read(), 6);
    }

    private void spoil() {
        SortTransform x = new SortTransform();
        due.is("23: of no tape", x.spoil(0, 1), BAD);
        x.tape(0xf00f, 2);
        due.is("23: spoil(0, 255)", x.spoil(0, 255), 0xf0);
        due.is("23: spoil(0, 1)", x.spoil(0, 1), 0xf1);
        due.is("23: spoil(1, 0)", x.spoil(1, 0), 0xf0);
        int[][] wrong = {{-1, 1}, {2, 1}, {0, -1}, {0, 256}, {LEAST, 1}, {MOST, 1}, {0, LEAST}, {0, MOST}};
        for (int[] args : wrong) {
            due.is("23: spoil(" + args[0] + ", " + args[1] + ")", x.spoil(args[0], args[1]), BAD);
        }
        due.is("23: BAD changes nothing", x.spoil(0, 0), 0xf1);
        SortTransform taken = of("banana");
        taken.write();
        taken.take();
        taken.spoil(0, 255);
        due.is("23: OUT stays", taken.out(0), 83);
    }

    private void cut() {
        SortTransform x = new SortTransform();
        due.is("24: cut(0) of no tape", x.cut(0), 0);
        due.is("24: cut(1) of no tape", x.cut(1), BAD);
        x.tape(0x0807060504030201L, 8);
        due.is("24: cut(8)", x.cut(8), 8);
        for (int n : new int[] {-1, 9, LEAST, MOST}) {
            due.is("24: cut(" + n + ")", x.cut(n), BAD);
        }
        due.is("24: cut(3)", x.cut(3), 8);
        due.is("24: the third byte is there", x.spoil(2, 0), 3);
        due.is("24: the fourth is not", x.spoil(3, 0), BAD);
        due.is("24: one more comes behind", x.tape(9, 1), 4);
        due.is("24: cut(0)", x.cut(0), 4);
        due.is("24: then it is empty", x.cut(0), 0);
    }

    private void read() {
        SortTransform x = of("aaaaaabbbbaccccc");
        x.write();
        x.take();
        x.clear();
        feedText(x, "other");
        due.is("25: read()", x.read(), 16);
        blockIs("25: read()", x, "aaaaaabbbbaccccc");
        due.is("25: the tape is empty then", x.cut(0), 0);
        due.is("25: PACKED is of what was read", x.packed(4), 2);
        due.is("25: its turns", x.order(0), 0);
        due.is("25: its symbols", x.symbol(0), 1);
        x.take();
        x.spoil(9, 1);
        due.is("25: a FAULT", x.read(), -21);
        blockIs("25: the block stays", x, "aaaaaabbbbaccccc");
        due.is("25: the tape is empty then, too", x.cut(0), 0);
        due.is("25: OUT stays", x.out(0), 83);
        due.is("25: an empty tape", x.read(), -11);
        SortTransform full = new SortTransform();
        for (int i = 0; i < 75; i++) {
            full.feed(0x9e3779b97f4a7c15L * (i + 1), 8);
        }
        int[] bytes = new int[600];
        for (int i = 0; i < 600; i++) {
            bytes[i] = full.octet(i);
        }
        full.write();
        full.take();
        full.clear();
        due.is("25: a full block", full.read(), 600);
        for (int i = 0; i < 600; i++) {
            due.is("25: of a full block: octet(" + i + ")", full.octet(i), bytes[i]);
        }
    }

    private void faultAt() {
        SortTransform x = of("banana");
        due.is("26: ahead of read()", x.faultAt(), NONE);
        due.is("26: an empty tape", x.read() + 100L * x.faultAt(), -11);
        x.write();
        x.take();
        x.cut(7);
        x.read();
        due.is("26: a tape of seven", x.faultAt(), 7);
        due.is("26: asked again", x.faultAt(), 7);
        x.take();
        due.is("26: it is of the latest read()", x.faultAt(), 7);
        x.read();
        due.is("26: without one", x.faultAt(), NONE);
    }

    private void check() {
        due.is("27: no bytes", new SortTransform().check(), 0);
        // The check of these nine is told wherever this check is told.
        due.is("27: 123456789", of("123456789").check(), 0xfc891918);
        due.is("27: banana", of("banana").check(), -273224703);
        SortTransform x = new SortTransform();
        x.fill(4, 0);
        due.is("27: four noughts", x.check(), 0xc704dd7b ^ -1);
        x.fill(200, 255);
        int full = x.check();
        x.write();
        due.is("27: it is of THE BLOCK, not of PACKED", x.out(9), full & 255);
    }
}
