/** Edges of the turns of THE BLOCK and of the way back: promises 8 to 15. */
final class TurnEdges extends Edges {

    private static long word(String text) {
        long bytes = 0;
        for (int i = 0; i < text.length(); i++) {
            bytes = bytes << 8 | text.charAt(i);
        }
        return bytes;
    }

    private void orderIs(String text, int... turns) {
        SortTransform x = of(text);
        for (int k = 0; k < turns.length; k++) {
            is(text + ": order(" + k + ")", x.order(k), turns[k]);
        }
    }

    private void stepsAre(String what, SortTransform x, String begin, int from, int to) {
        long bytes = word(begin);
        int n = begin.length();
        is(what + ": FROM of " + begin, x.steps(bytes, n, 0), from);
        is(what + ": TO of " + begin, x.steps(bytes, n, 1), to);
        is(what + ": how many of " + begin, x.steps(bytes, n, 2), from == NONE ? 0 : to - from);
    }

    private void noSteps(String what, SortTransform x, String begin) {
        stepsAre(what, x, begin, NONE, NONE);
    }

    // ---- 8: "The turn that stands k-th in order; NONE."

    /** "NONE": ahead of the first and behind the last place. */
    void p08NoSuchPlace() {
        for (int k : new int[] {-1, 3, 600, LEAST, MOST}) {
            is("order(" + k + ")", of("cab").order(k), NONE);
        }
        orderIs("cab", 1, 2, 0);
    }

    /** "NONE": of no bytes. */
    void p08OfNoBytes() {
        is("order(0)", empty().order(0), NONE);
    }

    /** One byte has one turn. */
    void p08OfOneByte() {
        is("order(0)", of("a").order(0), 0);
        is("order(1)", of("a").order(1), NONE);
    }

    /** "from place p on and then what is before": at the block's end a turn goes on with its beginning. */
    void p08TurnsGoRound() {
        // bab, abb, bba; by the rows up to the end alone it would be 1, 2, 0.
        orderIs("bab", 1, 0, 2);
        // abbb, babb, bbab, bbba; by the rows up to the end alone it would be 2, 3, 1, 0.
        orderIs("bbab", 2, 1, 0, 3);
    }

    /** "like ones by p" */
    void p08LikeTurnsByPlace() {
        orderIs("baba", 1, 3, 0, 2);
        orderIs("aaa", 0, 1, 2);
    }

    /** "like ones by p": in a full block, too. */
    void p08FullBlockOfLikeTurns() {
        SortTransform x = filled(ROOM, 9);
        is("order(0)", x.order(0), 0);
        is("order(300)", x.order(300), 300);
        is("order(599)", x.order(599), 599);
        is("order(600)", x.order(600), NONE);
    }

    /** "by bytes": bytes are 0 .. 255 and have no sign. */
    void p08BytesHaveNoSign() {
        orderIs("\u00ff\u0000\u0080\u007f", 1, 3, 2, 0);
    }

    /** Turns that differ only behind 599 like bytes are told apart. */
    void p08TurnsThatDifferLate() {
        SortTransform behind = manyAndOne(599, 'a', 'b');
        is("599 a and a b: order(0)", behind.order(0), 0);
        is("599 a and a b: order(598)", behind.order(598), 598);
        is("599 a and a b: order(599)", behind.order(599), 599);
        SortTransform ahead = oneAndMany('b', 599, 'a');
        is("a b and 599 a: order(0)", ahead.order(0), 1);
        is("a b and 599 a: order(598)", ahead.order(598), 599);
        is("a b and 599 a: order(599)", ahead.order(599), 0);
    }

    /** The order is THE BLOCK's: a refused call leaves it, a byte more makes another one, of PACKED it never is. */
    void p08BehindOtherCalls() {
        SortTransform x = of("bab");
        is("order(1)", x.order(1), 0);
        x.feed('a', 9);
        x.back(3);
        is("order(1) behind refused calls", x.order(1), 0);
        x.write();
        x.take();
        x.cut(5);
        x.read();
        is("order(1) behind write() and a FAULT", x.order(1), 0);
        x.feed('a', 1);
        is("order(0) of baba", x.order(0), 1);
        is("order(1) of baba", x.order(1), 3);
        SortTransform run = of("aaaab");
        run.write();
        is("order(4) of aaaab", run.order(4), 4);
        is("order(5) of aaaab", run.order(5), NONE);
    }

    // ---- 9: "Byte k of LAST; NONE."

    /** "NONE": ahead of the first and behind the last place. */
    void p09NoSuchPlace() {
        for (int k : new int[] {-1, 3, 600, LEAST, MOST}) {
            is("last(" + k + ")", of("cab").last(k), NONE);
        }
    }

    /** "NONE": of no bytes. */
    void p09OfNoBytes() {
        is("last(0)", empty().last(0), NONE);
    }

    /** Of one byte LAST is that byte. */
    void p09OfOneByte() {
        is("last(0)", of("q").last(0), 'q');
        is("last(1)", of("q").last(1), NONE);
    }

    /** "of turn k in order its last byte": of turn 0 that is THE BLOCK's last byte. */
    void p09LastOfTurnNought() {
        SortTransform x = of("abc");
        is("last(0), of abc", x.last(0), 'c');
        is("last(1), of bca", x.last(1), 'a');
        is("last(2), of cab", x.last(2), 'b');
    }

    /** A full block has 600. */
    void p09OfAFullBlock() {
        SortTransform x = oneAndMany('b', 599, 'a');
        is("last(0)", x.last(0), 'b');
        is("last(1)", x.last(1), 'a');
        is("last(599)", x.last(599), 'a');
        is("last(600)", x.last(600), NONE);
    }

    // ---- 10: "ORIGIN; NONE of no bytes."

    /** "NONE of no bytes." */
    void p10OfNoBytes() {
        is("origin()", empty().origin(), NONE);
        SortTransform x = of("a");
        x.clear();
        is("origin() behind clear()", x.origin(), NONE);
    }

    /** Of one byte it is 0. */
    void p10OfOneByte() {
        is("origin()", of("q").origin(), 0);
    }

    /** "where turn 0 stands": at the first place, and at the last. */
    void p10FirstAndLastPlace() {
        is("origin() of abc", of("abc").origin(), 0);
        is("origin() of cab", of("cab").origin(), 2);
        is("origin() of a b and 599 a", oneAndMany('b', 599, 'a').origin(), 599);
    }

    /** "like ones by p": of like turns, turn 0 stands first. */
    void p10OfLikeTurns() {
        is("origin() of baba", of("baba").origin(), 2);
        is("origin() of 600 like ones", filled(ROOM, 1).origin(), 0);
    }

    // ---- 11: "ROUNDS; NONE of no bytes."

    /** "NONE of no bytes." */
    void p11OfNoBytes() {
        is("rounds()", empty().rounds(), NONE);
        SortTransform x = of("aab");
        x.rounds();
        x.clear();
        is("rounds() behind clear()", x.rounds(), NONE);
    }

    /** "the least r": it is 0 where the first byte tells all apart, and of one byte. */
    void p11Nought() {
        is("rounds() of a", of("a").rounds(), 0);
        is("rounds() of ab", of("ab").rounds(), 0);
        is("rounds() of hgfedcba", of("hgfedcba").rounds(), 0);
    }

    /** "no two turns that differ": like turns need not be told apart. */
    void p11LikeTurnsDoNotCount() {
        is("rounds() of abababab", of("abababab").rounds(), 0);
        is("rounds() of aabaab", of("aabaab").rounds(), 1);
        is("rounds() of 600 like ones", filled(ROOM, 1).rounds(), 0);
    }

    /** "the same first 2^r bytes": just 2^r bytes are enough, one more that is like needs one more round. */
    void p11JustEnoughBytes() {
        int[][] due = {{2, 1}, {3, 2}, {4, 2}, {5, 3}, {8, 3}, {9, 4}, {256, 8}, {257, 9}, {512, 9}, {513, 10}};
        for (int[] row : due) {
            is("rounds() of " + row[0] + " a and a b", manyAndOne(row[0], 'a', 'b').rounds(), row[1]);
        }
    }

    /** "of turns as rows that go round and round": 2^r may be more than there are bytes. */
    void p11MoreBytesThanThereAre() {
        is("rounds() of aaab", of("aaab").rounds(), 2);
        is("rounds() of aaaaab: eight of six", of("aaaaab").rounds(), 3);
        is("rounds() of 599 a and a b: 1024 of 600", manyAndOne(599, 'a', 'b').rounds(), 10);
    }

    /** ROUNDS are of THE BLOCK as it is: fewer again, and none, on one object. */
    void p11FewerAgain() {
        SortTransform x = of("aaaab");
        is("rounds() of aaaab", x.rounds(), 2);
        x.clear();
        feed(x, "aab");
        is("rounds() of aab", x.rounds(), 1);
        feed(x, "aab");
        is("rounds() of aabaab", x.rounds(), 1);
        x.clear();
        feed(x, "ab");
        is("rounds() of ab", x.rounds(), 0);
    }

    // ---- 12: "The START of part i of m (1 .. 64); NONE of no bytes. BAD."

    /** "m (1 .. 64)": one part begins at place 0, where the ORIGIN is. */
    void p12OnePart() {
        is("start(1, 0) of cab", of("cab").start(1, 0), 2);
        is("start(1, 1) of cab", of("cab").start(1, 1), BAD);
    }

    /** "m (1 .. 64)": 64 parts are the most; "i * n / m" of a full block. */
    void p12MostParts() {
        // Turn p stands at p - 1 here, and turn 0 at 599.
        SortTransform x = oneAndMany('b', 599, 'a');
        is("start(64, 0)", x.start(64, 0), 599);
        is("start(64, 1) is of place 9", x.start(64, 1), 8);
        is("start(64, 62) is of place 581", x.start(64, 62), 580);
        is("start(64, 63) is of place 590", x.start(64, 63), 589);
    }

    /** "BAD": no parts, too many parts. */
    void p12NoSuchManyParts() {
        for (int m : new int[] {0, -1, 65, LEAST, MOST}) {
            is("start(" + m + ", 0)", of("cab").start(m, 0), BAD);
        }
    }

    /** "part i (0 .. m - 1)": the last one is there, the one behind it and the one ahead of 0 are BAD. */
    void p12NoSuchPart() {
        is("start(3, 2)", of("cab").start(3, 2), 1);
        for (int i : new int[] {3, 4, -1, LEAST, MOST}) {
            is("start(3, " + i + ")", of("cab").start(3, i), BAD);
        }
        is("start(64, 64)", of("cab").start(64, 64), BAD);
    }

    /** "begins at place i * n / m": what is left over is dropped. */
    void p12WhatIsLeftOver() {
        // The turns of banana stand at 3, 2, 5, 1, 4, 0.
        SortTransform x = of("banana");
        is("start(4, 0) is of place 0", x.start(4, 0), 3);
        is("start(4, 1) is of place 1", x.start(4, 1), 2);
        is("start(4, 2) is of place 3", x.start(4, 2), 1);
        is("start(4, 3) is of place 4", x.start(4, 3), 4);
    }

    /** More parts than bytes: several begin at one place. */
    void p12MorePartsThanBytes() {
        SortTransform x = of("ba");
        is("start(3, 0) is of place 0", x.start(3, 0), 1);
        is("start(3, 1) is of place 0", x.start(3, 1), 1);
        is("start(3, 2) is of place 1", x.start(3, 2), 0);
        is("start(64, 31) is of place 0", x.start(64, 31), 1);
        is("start(64, 32) is of place 1", x.start(64, 32), 0);
        is("start(64, 63) of one byte", of("q").start(64, 63), 0);
    }

    /** "NONE of no bytes." */
    void p12OfNoBytes() {
        is("start(1, 0)", empty().start(1, 0), NONE);
        is("start(64, 63)", empty().start(64, 63), NONE);
    }

    // ---- 13: "STEPS by the n highest of the lowest 8 n bits of a long as bytes (1 .. 8; the highest first) .. BAD."

    /** "1 .. 8": one byte is the least. */
    void p13OneByte() {
        stepsAre("banana", of("banana"), "b", 3, 4);
    }

    /** "1 .. 8": eight bytes are the most. */
    void p13EightBytes() {
        stepsAre("hgfedcba", of("hgfedcba"), "hgfedcba", 7, 8);
        SortTransform x = filled(9, 255);
        is("eight bytes 255, FROM", x.steps(-1L, 8, 0), 0);
        is("eight bytes 255, TO", x.steps(-1L, 8, 1), 9);
        is("eight bytes 255, how many", x.steps(-1L, 8, 2), 9);
        is("seven bytes 255 ahead of a 0", x.steps(-256L, 8, 2), 0);
    }

    /** "BAD": fewer than one byte, more than eight. */
    void p13NoSuchManyBytes() {
        for (int n : new int[] {0, -1, 9, LEAST, MOST}) {
            for (int what = 0; what <= 2; what++) {
                is("steps('a', " + n + ", " + what + ")", of("banana").steps('a', n, what), BAD);
            }
        }
    }

    /** "BAD": what is not 0, 1 or 2. */
    void p13NoSuchWhat() {
        for (int what : new int[] {-1, 3, LEAST, MOST}) {
            is("steps('a', 1, " + what + ")", of("banana").steps('a', 1, what), BAD);
        }
    }

    /** "the lowest 8 n bits of a long": higher bits do not count. */
    void p13HigherBitsDoNotCount() {
        SortTransform x = of("banana");
        is("xxan, two bytes", x.steps(word("xxan"), 2, 2), 2);
        is("all higher bits, one byte", x.steps(-256L | 'a', 1, 2), 3);
    }

    /** "the highest first": the long's highest byte is the turns' first. */
    void p13HighestFirst() {
        stepsAre("abc", of("abc"), "ab", 0, 1);
        noSteps("abc", of("abc"), "ba");
    }

    /** Bytes 0 and 255 are bytes like others. */
    void p13LeastAndMostByte() {
        SortTransform x = of("\u00ff\u0000");
        stepsAre("255 and 0", x, "\u0000", 0, 1);
        stepsAre("255 and 0", x, "\u00ff", 1, 2);
        stepsAre("255 and 0", x, "\u0000\u00ff", 0, 1);
        noSteps("255 and 0", x, "\u0000\u0000");
    }

    /** "none, if these are more than n": though turns that go round would begin with them. */
    void p13MoreBytesThanTheBlock() {
        noSteps("aa", of("aa"), "aaa");
        stepsAre("aa", of("aa"), "aa", 0, 2);
        noSteps("banana", of("banana"), "bananab");
        stepsAre("banana", of("banana"), "banana", 3, 4);
        noSteps("seven a", filled(7, 'a'), "aaaaaaaa");
        stepsAre("eight a", filled(8, 'a'), "aaaaaaaa", 0, 8);
    }

    /** Turns go round at the block's end. */
    void p13TurnsGoRound() {
        stepsAre("abc", of("abc"), "ca", 2, 3);
        stepsAre("abc", of("abc"), "cab", 2, 3);
        stepsAre("abcdefgh", of("abcdefgh"), "habcdefg", 7, 8);
    }

    /** "FROM .. TO .. one behind the last": at the first place, and up to how many there are. */
    void p13FirstAndLastPlace() {
        stepsAre("banana", of("banana"), "a", 0, 3);
        stepsAre("banana", of("banana"), "n", 4, 6);
        stepsAre("600 like ones", filled(ROOM, 'a'), "aaaaaaaa", 0, ROOM);
    }

    /** "FROM, TO are NONE when there are none": how many is 0 then. */
    void p13NoneThere() {
        noSteps("banana", of("banana"), "bn");
        noSteps("banana", of("banana"), "c");
        noSteps("banana", of("banana"), "z");
        noSteps("banana", of("banana"), "A");
    }

    /** Of no bytes there are none. */
    void p13OfNoBytes() {
        noSteps("no bytes", empty(), "a");
        noSteps("no bytes", empty(), "\u0000");
    }

    // ---- 14: "THE BLOCK becomes what it gives BACK .. 1 if RIGHT, 0 if not .. BAD: no such place; NONE of no bytes."

    /** "NONE of no bytes." */
    void p14OfNoBytes() {
        is("back(0)", empty().back(0), NONE);
    }

    /** "BAD: no such place": and THE BLOCK stays. */
    void p14NoSuchPlace() {
        for (int origin : new int[] {-1, 6, 7, LEAST, MOST}) {
            SortTransform x = of("nnbaaa");
            is("back(" + origin + ")", x.back(origin), BAD);
            blockIs("behind back(" + origin + ")", x, "nnbaaa");
        }
    }

    /** One byte gives itself back. */
    void p14OfOneByte() {
        SortTransform x = of("q");
        is("back(0)", x.back(0), 1);
        blockIs("q", x, "q");
    }

    /** The first place and the last one are places. */
    void p14FirstAndLastPlace() {
        SortTransform first = of("nnbaaa");
        is("back(0)", first.back(0), 1);
        blockIs("from 0", first, "abanan");
        SortTransform last = of("nnbaaa");
        is("back(5)", last.back(5), 1);
        blockIs("from 5", last, "nanaba");
    }

    /** "0 if not (it becomes that all the same)": the row has another LAST. */
    void p14AnotherLast() {
        SortTransform x = of("aba");
        is("back(0)", x.back(0), 0);
        blockIs("from 0", x, "aaa");
    }

    /** "just this LAST and this ORIGIN": of like turns only the first one's place is RIGHT. */
    void p14AnotherOrigin() {
        SortTransform first = of("bbaa");
        is("back(0)", first.back(0), 1);
        blockIs("from 0", first, "abab");
        SortTransform second = of("bbaa");
        is("back(1)", second.back(1), 0);
        blockIs("from 1", second, "abab");
        is("back(1) of aa", of("aa").back(1), 0);
        is("back(0) of aa", of("aa").back(0), 1);
    }

    /** "like ones as they stand": the first of like bytes of LAST put in order is the first in LAST. */
    void p14LikeBytesAsTheyStand() {
        SortTransform x = of("bcaa");
        is("back(0)", x.back(0), 0);
        blockIs("from 0", x, "abab");
        SortTransform y = of("caab");
        is("back(0)", y.back(0), 1);
        blockIs("from 0", y, "aabc");
    }

    /** A full block: "n bytes". */
    void p14OfAFullBlock() {
        // The LAST of a b and 599 a is that row itself, with the ORIGIN 599.
        SortTransform x = oneAndMany('b', 599, 'a');
        is("back(599)", x.back(599), 1);
        is("octet(0)", x.octet(0), 'b');
        is("octet(1)", x.octet(1), 'a');
        is("octet(599)", x.octet(599), 'a');
        is("clear()", x.clear(), ROOM);
        is("back(600) of a full block", filled(ROOM, 'a').back(ROOM), BAD);
    }

    /** "THE BLOCK becomes what it gives": what is told of THE BLOCK is of the new one. */
    void p14BlockIsAnotherThen() {
        SortTransform x = of("nnbaaa");
        x.order(0);
        x.symbol(0);
        x.pack();
        x.back(3);
        is("order(0) of banana", x.order(0), 5);
        is("last(2) of banana", x.last(2), 'b');
        is("symbol(0) of banana", x.symbol(0), 2);
        is("packed(0) of banana", x.packed(0), 'b');
        is("check() of banana", x.check(), -273224703);
    }

    /** Back again and again on one object: each time from what THE BLOCK has become. */
    void p14AgainAndAgain() {
        SortTransform x = of("nnbaaa");
        is("back(3)", x.back(3), 1);
        is("back(3) again", x.back(3), 0);
        blockIs("back(3) again", x, "baabaa");
        x.clear();
        feed(x, "bbaa");
        is("back(0)", x.back(0), 1);
        blockIs("back(0)", x, "abab");
    }

    // ---- 15: "How many steps of NEXT lead from a place to itself again, THE BLOCK being LAST. BAD."

    /** "BAD": no such place. */
    void p15NoSuchPlace() {
        for (int k : new int[] {-1, 6, 7, LEAST, MOST}) {
            is("ring(" + k + ")", of("banana").ring(k), BAD);
        }
        is("ring(5)", of("banana").ring(5), 3);
    }

    /** "BAD": of no bytes no place is there. */
    void p15OfNoBytes() {
        is("ring(0)", empty().ring(0), BAD);
    }

    /** The least: one step leads to itself. */
    void p15OneStep() {
        is("ring(0) of q", of("q").ring(0), 1);
        is("ring(0) of aba", of("aba").ring(0), 1);
        is("ring(599) of 600 like ones", filled(ROOM, 1).ring(599), 1);
    }

    /** The most: the ring goes through all places. */
    void p15AllSteps() {
        is("ring(0) of nnbaaa", of("nnbaaa").ring(0), 6);
        is("ring(0) of a b and 599 a", oneAndMany('b', 599, 'a').ring(0), ROOM);
        is("ring(599) of a b and 599 a", oneAndMany('b', 599, 'a').ring(599), ROOM);
    }

    /** "THE BLOCK being LAST": it is asked of one block, and then of another on the same object. */
    void p15OfAnotherBlock() {
        SortTransform x = of("banana");
        is("ring(0) of banana", x.ring(0), 3);
        x.clear();
        feed(x, "aba");
        is("ring(0) of aba", x.ring(0), 1);
        is("ring(1) of aba", x.ring(1), 2);
        is("ring(3) of aba", x.ring(3), BAD);
    }

    /** THE BLOCK stays, with the order of its turns. */
    void p15BlockStays() {
        SortTransform x = of("banana");
        is("order(0)", x.order(0), 5);
        x.ring(0);
        x.ring(6);
        is("order(0) behind ring", x.order(0), 5);
        blockIs("behind ring", x, "banana");
    }
}
