import java.util.Collections;
import java.util.List;

/** Edges of THE BLOCK, of PACKED and of THE CHECK: promises 1 to 7 and 27. */
final class BlockEdges extends Edges {

    // ---- 1: "An empty BLOCK, TAPE, OUT, nothing in order."

    /** "An empty BLOCK" */
    void p01BlockIsEmpty() {
        is("octet(0)", empty().octet(0), NONE);
        is("pack()", empty().pack(), 0);
        is("clear()", empty().clear(), 0);
    }

    /** "An empty .. TAPE" */
    void p01TapeIsEmpty() {
        is("cut(0)", empty().cut(0), 0);
        is("spoil(0, 0)", empty().spoil(0, 0), BAD);
        is("read()", empty().read(), -11);
        is("tape(0, 1)", empty().tape(0, 1), 1);
    }

    /** "An empty .. OUT" */
    void p01OutIsEmpty() {
        is("out(0)", empty().out(0), NONE);
        is("take()", empty().take(), 0);
    }

    /** "nothing in order" */
    void p01NothingIsInOrder() {
        is("order(0)", empty().order(0), NONE);
        is("last(0)", empty().last(0), NONE);
        is("origin()", empty().origin(), NONE);
    }

    /** A new object: nothing of another object is in it. */
    void p01ObjectsShareNothing() {
        SortTransform other = of("banana");
        other.write();
        other.take();
        SortTransform x = empty();
        is("octet(0)", x.octet(0), NONE);
        is("order(0)", x.order(0), NONE);
        is("out(0)", x.out(0), NONE);
        is("cut(0)", x.cut(0), 0);
        blockIs("the other one", other, "banana");
    }

    /** "An object is used for at most 512 calls after it has been made": the 512th answers as the first does. */
    void p01CallNumber512() {
        SortTransform x = empty();
        for (int call = 1; call < 512; call++) {
            is("feed, call " + call, x.feed(call, 1), call);
        }
        is("feed, call 512", x.feed(512, 1), 512);
    }

    /** "what later calls answer is free": but no call throws. */
    void p01CallsBehind512DoNotThrow() {
        SortTransform x = empty();
        for (int call = 1; call <= 700; call++) {
            x.feed(call, 1);
            x.order(call);
        }
        x.write();
        x.take();
        x.read();
        is("it has come to here", 1, 1);
    }

    // ---- 2: "The n lowest bytes of a long (1 .. 8), the lowest first, come behind THE BLOCK: how many it has. BAD; FULL."

    /** "1 .. 8": one byte is the least. */
    void p02OneByte() {
        SortTransform x = empty();
        is("feed(0x4241, 1)", x.feed(0x4241, 1), 1);
        blockIs("one byte", x, "A");
    }

    /** "1 .. 8": eight bytes are the most; "the lowest first". */
    void p02EightBytes() {
        SortTransform x = empty();
        is("feed(.., 8)", x.feed(0x0807060504030201L, 8), 8);
        blockIs("eight bytes", x, "\u0001\u0002\u0003\u0004\u0005\u0006\u0007\b");
    }

    /** "BAD": fewer than one byte. */
    void p02TooFewIsBad() {
        for (int n : new int[] {0, -1, -8, LEAST}) {
            SortTransform x = of("ab");
            is("feed(1, " + n + ")", x.feed(1, n), BAD);
            blockIs("behind feed(1, " + n + ")", x, "ab");
        }
    }

    /** "BAD": more than eight bytes. */
    void p02TooManyIsBad() {
        for (int n : new int[] {9, 16, 600, MOST}) {
            SortTransform x = of("ab");
            is("feed(1, " + n + ")", x.feed(1, n), BAD);
            blockIs("behind feed(1, " + n + ")", x, "ab");
        }
    }

    /** THE BLOCK's bytes are "0 .. 255": a long's sign makes no byte less than 0. */
    void p02BytesHaveNoSign() {
        SortTransform x = empty();
        x.feed(-1L, 8);
        x.feed(0L, 1);
        x.feed(Long.MIN_VALUE, 8);
        is("the first of -1", x.octet(0), 255);
        is("the eighth of -1", x.octet(7), 255);
        is("the only one of 0", x.octet(8), 0);
        is("the seventh of the least long", x.octet(15), 0);
        is("the eighth of the least long", x.octet(16), 128);
    }

    /** "up to 600 bytes": the 600th has room, by itself and as the last of eight. */
    void p02RoomForSixHundred() {
        is("feed(1, 1) behind 599", filled(599, 1).feed(1, 1), ROOM);
        SortTransform x = filled(592, 1);
        is("feed(.., 8) behind 592", x.feed(0x0807060504030201L, 8), ROOM);
        is("octet(599)", x.octet(599), 8);
    }

    /** "FULL": a byte behind the 600th has no room, and nothing comes. */
    void p02FullBehindSixHundred() {
        SortTransform x = filled(ROOM, 1);
        is("feed(2, 1) behind 600", x.feed(2, 1), FULL);
        is("octet(599)", x.octet(599), 1);
        is("octet(600)", x.octet(600), NONE);
        is("clear()", x.clear(), ROOM);
    }

    /** "FULL": of eight bytes not even those come that would have room. */
    void p02FullBringsNothing() {
        SortTransform x = filled(593, 1);
        is("feed(-1, 8) behind 593", x.feed(-1L, 8), FULL);
        is("octet(593)", x.octet(593), NONE);
        is("feed(-1, 7) behind 593", x.feed(-1L, 7), ROOM);
    }

    /** "BAD; FULL.": what is not 1 .. 8 is BAD even if there is no room. */
    void p02BadIsAheadOfFull() {
        is("feed(1, 9) behind 600", filled(ROOM, 1).feed(1, 9), BAD);
        is("feed(1, 0) behind 600", filled(ROOM, 1).feed(1, 0), BAD);
    }

    /** "come behind THE BLOCK": what is told of an empty one, and of one, is another thing behind one byte more. */
    void p02BlockIsAnotherThen() {
        SortTransform x = empty();
        for (int n = 1; n <= 3; n++) {
            x.pack();
            x.order(0);
            x.symbol(0);
            x.feed('a', 1);
            is("pack() of " + n, x.pack(), n);
            is("order(" + (n - 1) + ") of " + n, x.order(n - 1), n - 1);
            is("symbol(0) of " + n, x.symbol(0), n == 2 ? 1 : 0);
        }
    }

    // ---- 3: "n bytes b (0 .. 255), 1 to 600, come behind it: how many it has. BAD; FULL."

    /** "1 to 600": one is the least. */
    void p03OneByte() {
        SortTransform x = of("ab");
        is("fill(1, 99)", x.fill(1, 99), 3);
        blockIs("one byte", x, "abc");
    }

    /** "1 to 600": 600 is the most. */
    void p03SixHundredBytes() {
        SortTransform x = empty();
        is("fill(600, 7)", x.fill(ROOM, 7), ROOM);
        is("octet(0)", x.octet(0), 7);
        is("octet(599)", x.octet(599), 7);
        is("octet(600)", x.octet(600), NONE);
    }

    /** "BAD": fewer than one. */
    void p03TooFewIsBad() {
        for (int n : new int[] {0, -1, LEAST}) {
            SortTransform x = of("ab");
            is("fill(" + n + ", 1)", x.fill(n, 1), BAD);
            blockIs("behind fill(" + n + ", 1)", x, "ab");
        }
    }

    /** "BAD": more than 600, also where nothing is. */
    void p03TooManyIsBad() {
        for (int n : new int[] {601, 1000, MOST}) {
            SortTransform x = empty();
            is("fill(" + n + ", 1)", x.fill(n, 1), BAD);
            is("octet(0)", x.octet(0), NONE);
        }
    }

    /** "b (0 .. 255)": both ends are bytes. */
    void p03LeastAndMostByte() {
        SortTransform x = empty();
        is("fill(1, 0)", x.fill(1, 0), 1);
        is("fill(1, 255)", x.fill(1, 255), 2);
        is("octet(0)", x.octet(0), 0);
        is("octet(1)", x.octet(1), 255);
    }

    /** "BAD": what is no byte. */
    void p03NoByteIsBad() {
        for (int b : new int[] {-1, 256, LEAST, MOST}) {
            SortTransform x = of("ab");
            is("fill(1, " + b + ")", x.fill(1, b), BAD);
            blockIs("behind fill(1, " + b + ")", x, "ab");
        }
    }

    /** "up to 600 bytes": the 600th has room. */
    void p03RoomForSixHundred() {
        is("fill(1, 1) behind 599", filled(599, 1).fill(1, 1), ROOM);
        is("fill(599, 1) behind 1", filled(1, 1).fill(599, 1), ROOM);
    }

    /** "FULL": one more has none, and nothing comes. */
    void p03FullBringsNothing() {
        SortTransform x = of("ab");
        is("fill(599, 1) behind two", x.fill(599, 1), FULL);
        is("fill(600, 1) behind two", x.fill(600, 1), FULL);
        blockIs("behind FULL", x, "ab");
        is("fill(1, 1) behind 600", filled(ROOM, 1).fill(1, 1), FULL);
    }

    /** "BAD; FULL.": what is no count or no byte is BAD even if there is no room. */
    void p03BadIsAheadOfFull() {
        is("fill(1, 256) behind 600", filled(ROOM, 1).fill(1, 256), BAD);
        is("fill(601, 1) behind 600", filled(ROOM, 1).fill(601, 1), BAD);
        is("fill(0, 1) behind 600", filled(ROOM, 1).fill(0, 1), BAD);
    }

    /** "come behind it": what is told of an empty one, and of one, is another thing behind one byte more. */
    void p03BlockIsAnotherThen() {
        SortTransform x = empty();
        for (int n = 1; n <= 3; n++) {
            x.pack();
            x.order(0);
            x.symbol(0);
            x.fill(1, 'a');
            is("pack() of " + n, x.pack(), n);
            is("order(" + (n - 1) + ") of " + n, x.order(n - 1), n - 1);
            is("symbol(0) of " + n, x.symbol(0), n == 2 ? 1 : 0);
        }
    }

    // ---- 4: "THE BLOCK is empty: how many it had."

    /** "how many it had": of an empty one none. */
    void p04OfAnEmptyBlock() {
        SortTransform x = of("abc");
        is("clear()", x.clear(), 3);
        is("clear() again", x.clear(), 0);
    }

    /** "how many it had": of a full one 600, and then all 600 have room again. */
    void p04OfAFullBlock() {
        SortTransform x = filled(ROOM, 1);
        is("clear()", x.clear(), ROOM);
        is("fill(600, 2)", x.fill(ROOM, 2), ROOM);
    }

    /** "THE BLOCK is empty": nothing is told of what it had. */
    void p04NothingIsLeft() {
        SortTransform x = of("bananaaaa");
        x.pack();
        x.order(0);
        x.symbol(0);
        x.clear();
        is("octet(0)", x.octet(0), NONE);
        is("pack()", x.pack(), 0);
        is("packed(0)", x.packed(0), NONE);
        is("order(0)", x.order(0), NONE);
        is("last(0)", x.last(0), NONE);
        is("origin()", x.origin(), NONE);
        is("rounds()", x.rounds(), NONE);
        is("start(1, 0)", x.start(1, 0), NONE);
        is("steps('a')", x.steps('a', 1, 2), 0);
        is("symbol(1)", x.symbol(1), NONE);
        is("check()", x.check(), 0);
    }

    /** THE BLOCK alone is empty: OUT and THE TAPE stay. */
    void p04OutAndTapeStay() {
        SortTransform x = of("banana");
        x.write();
        x.take();
        x.clear();
        is("out(0)", x.out(0), 83);
        is("cut(18)", x.cut(18), 18);
    }

    // ---- 5: "Byte i of THE BLOCK; NONE."

    /** "NONE": ahead of the first. */
    void p05AheadOfTheFirst() {
        is("octet(-1)", of("abc").octet(-1), NONE);
        is("octet(the least)", of("abc").octet(LEAST), NONE);
        is("octet(0)", of("abc").octet(0), 'a');
    }

    /** "NONE": behind the last. */
    void p05BehindTheLast() {
        is("octet(2)", of("abc").octet(2), 'c');
        is("octet(3)", of("abc").octet(3), NONE);
        is("octet(the most)", of("abc").octet(MOST), NONE);
    }

    /** "NONE": behind a full one. */
    void p05OfAFullBlock() {
        SortTransform x = manyAndOne(599, 1, 2);
        is("octet(598)", x.octet(598), 1);
        is("octet(599)", x.octet(599), 2);
        is("octet(600)", x.octet(600), NONE);
    }

    /** "NONE": what was there ahead of clear() is not there. */
    void p05WhereNothingIsAnyMore() {
        SortTransform x = of("abc");
        x.clear();
        x.fill(1, 'd');
        blockIs("one byte", x, "d");
    }

    // ---- 6: "How many bytes PACKED of THE BLOCK has."

    /** Of no bytes it has none. */
    void p06OfNoBytes() {
        is("pack()", empty().pack(), 0);
    }

    /** "after each four bytes that are alike": three bring none, four bring one more. */
    void p06ThreeAndFour() {
        is("pack() of 1", filled(1, 7).pack(), 1);
        is("pack() of 3", filled(3, 7).pack(), 3);
        is("pack() of 4", filled(4, 7).pack(), 5);
        is("pack() of 5", filled(5, 7).pack(), 5);
    }

    /** "0 to 251, which are left out": 255 like ones are five bytes, the 256th is one more. */
    void p06MostLeftOut() {
        is("pack() of 254", filled(254, 7).pack(), 5);
        is("pack() of 255", filled(255, 7).pack(), 5);
        is("pack() of 256", filled(256, 7).pack(), 6);
    }

    /** "the next run is counted from behind those": it has its own count from its own fourth byte on. */
    void p06NextRunOfTheSame() {
        is("pack() of 258", filled(258, 7).pack(), 8);
        is("pack() of 259", filled(259, 7).pack(), 10);
        is("pack() of 510", filled(510, 7).pack(), 10);
        is("pack() of 511", filled(511, 7).pack(), 11);
    }

    /** "up to 600 bytes": of 600 like ones fifteen are left. */
    void p06FullBlockOfOneByte() {
        is("pack() of 600", filled(ROOM, 7).pack(), 15);
    }

    /** Each four of a full block bring one more: 750 is the most that PACKED has. */
    void p06MostBytes() {
        SortTransform x = empty();
        for (int i = 0; i < 150; i++) {
            x.fill(4, i);
        }
        is("pack()", x.pack(), 750);
        is("packed(748)", x.packed(748), 149);
        is("packed(749)", x.packed(749), 0);
        is("packed(750)", x.packed(750), NONE);
    }

    /** "alike and stand side by side": four that another one parts are no run. */
    void p06PartedOnesAreNoRun() {
        is("pack()", of("aabaa").pack(), 5);
        is("pack()", of("aaabaaa").pack(), 7);
    }

    /** "from the left": the block's end and its beginning do not stand side by side. */
    void p06EndAndBeginningAreNoRun() {
        is("pack()", of("aabbaa").pack(), 6);
        is("pack()", of("aaabaaa").pack(), 7);
    }

    // ---- 7: "Byte i of PACKED of THE BLOCK; NONE."

    /** "NONE": ahead of the first and behind the last. */
    void p07NoSuchPlace() {
        SortTransform x = of("abbbbb");
        for (int i : new int[] {-1, 6, LEAST, MOST}) {
            is("packed(" + i + ")", x.packed(i), NONE);
        }
        packedIs("abbbbb", x, 'a', 'b', 'b', 'b', 'b', 1);
    }

    /** "NONE": of no bytes. */
    void p07OfNoBytes() {
        is("packed(0)", empty().packed(0), NONE);
    }

    /** "tells how many more of the same follow .. 0": of just four it is 0, at the end and before another. */
    void p07CountNought() {
        packedIs("aaaa", of("aaaa"), 'a', 'a', 'a', 'a', 0);
        packedIs("aaaab", of("aaaab"), 'a', 'a', 'a', 'a', 0, 'b');
    }

    /** "0 to 251": 251 is the most that it tells. */
    void p07CountMost() {
        packedIs("254", filled(254, 7), 7, 7, 7, 7, 250);
        packedIs("255", filled(255, 7), 7, 7, 7, 7, 251);
        packedIs("256", filled(256, 7), 7, 7, 7, 7, 251, 7);
        packedIs("259", filled(259, 7), 7, 7, 7, 7, 251, 7, 7, 7, 7, 0);
        packedIs("260", filled(260, 7), 7, 7, 7, 7, 251, 7, 7, 7, 7, 1);
    }

    /** "not counting a byte of a run before": the bytes that a count has told are in no other run. */
    void p07BytesOfTheRunBefore() {
        packedIs("258", filled(258, 7), 7, 7, 7, 7, 251, 7, 7, 7);
        packedIs("600", filled(ROOM, 7), 7, 7, 7, 7, 251, 7, 7, 7, 7, 251, 7, 7, 7, 7, 86);
    }

    /** "four bytes .. in THE BLOCK": a count like the bytes behind it is not one of them. */
    void p07CountIsInNoRun() {
        SortTransform three = filled(9, 9);
        three.fill(3, 5);
        packedIs("a count 5 and three 5", three, 9, 9, 9, 9, 5, 5, 5, 5);
        SortTransform four = filled(9, 9);
        four.fill(4, 5);
        packedIs("a count 5 and four 5", four, 9, 9, 9, 9, 5, 5, 5, 5, 5, 0);
    }

    /** A count like the bytes of its own run is not one of them: 255 of 251 and two more. */
    void p07CountLikeItsRun() {
        packedIs("257 of 251", filled(257, 251), 251, 251, 251, 251, 251, 251, 251);
        packedIs("eight of 4", filled(8, 4), 4, 4, 4, 4, 4);
    }

    /** PACKED is of THE BLOCK as it is: a refused call changes nothing, a byte more does. */
    void p07BehindOtherCalls() {
        SortTransform x = of("aaaaa");
        is("packed(4)", x.packed(4), 1);
        x.feed('a', 9);
        x.fill(601, 'a');
        is("packed(4) behind refused calls", x.packed(4), 1);
        x.feed('a', 1);
        is("packed(4) behind one more", x.packed(4), 2);
    }

    // ---- 27: "THE CHECK of THE BLOCK."

    /** Of no bytes: "c is 2^32 - 1 .. at the end all bits turned". */
    void p27OfNoBytes() {
        is("check()", empty().check(), 0);
    }

    /** "xor 79764919 if its highest bit was 1": of a byte 255 it never was, of a byte 0 it is at once. */
    void p27HighestBit() {
        is("check() of 255", filled(1, 255).check(), 255);
        is("check() of 0", filled(1, 0).check(), 0xB1F7404B);
    }

    /** "within 32 bits": the answer is these 32 bits, a number below 0 if the highest is 1, and even -1. */
    void p27AllBits() {
        is("check() of four 255", filled(4, 255).check(), -1);
        is("check() of five 255", manyAndOne(4, 255, 255).check(), PlainModel.checkOf(List.of(255, 255, 255, 255, 255)));
        is("check() of four 255 and a 0", manyAndOne(4, 255, 0).check(), -1);
        is("check() of 123456789", of("123456789").check(), 0xFC891918);
    }

    /** "for each byte (of THE BLOCK)": not of PACKED, and up to the 600th byte. */
    void p27OfTheBlockItself() {
        int check = filled(5, 0).check();
        is("five noughts", check, PlainModel.checkOf(Collections.nCopies(5, 0)));
        is("a full block", filled(ROOM, 3).check(), PlainModel.checkOf(Collections.nCopies(ROOM, 3)));
        is("a full block differs from one less", filled(599, 3).check() == filled(ROOM, 3).check() ? 1 : 0, 0);
    }
}
