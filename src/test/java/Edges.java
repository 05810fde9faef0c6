import java.util.List;

/**
 * What the tests of edges share. Each of them is one method, named by its promise ('p02..' is of promise 2) with a
 * remark that tells the document's sentence; EdgeTests finds and runs them.
 */
abstract class Edges {
    static final int BAD = -1, NONE = -2, FULL = -3;
    static final int LEAST = Integer.MIN_VALUE, MOST = Integer.MAX_VALUE;
    static final int ROOM = 600;
    static final int TAPE_ROOM = 3000;

    private Due due;

    final void tell(Due due) {
        this.due = due;
    }

    final void is(String call, long got, long want) {
        due.is(getClass().getSimpleName() + ": " + call, got, want);
    }

    static SortTransform empty() {
        return new SortTransform();
    }

    static SortTransform of(String text) {
        SortTransform x = new SortTransform();
        feed(x, text);
        return x;
    }

    static SortTransform filled(int n, int b) {
        SortTransform x = new SortTransform();
        x.fill(n, b);
        return x;
    }

    /** One byte b, and n of c behind it. */
    static SortTransform oneAndMany(int b, int n, int c) {
        SortTransform x = filled(1, b);
        x.fill(n, c);
        return x;
    }

    /** n bytes b, and one c behind them. */
    static SortTransform manyAndOne(int n, int b, int c) {
        SortTransform x = filled(n, b);
        x.fill(1, c);
        return x;
    }

    static void feed(SortTransform x, String text) {
        for (int i = 0; i < text.length(); i += 8) {
            int n = Math.min(8, text.length() - i);
            long row = 0;
            for (int j = n - 1; j >= 0; j--) {
                row = row << 8 | text.charAt(i + j);
            }
            x.feed(row, n);
        }
    }

    final void blockIs(String what, SortTransform x, String text) {
        for (int i = 0; i < text.length(); i++) {
            is(what + ": octet(" + i + ")", x.octet(i), text.charAt(i));
        }
        is(what + ": octet behind it", x.octet(text.length()), NONE);
    }

    final void packedIs(String what, SortTransform x, int... bytes) {
        is(what + ": pack()", x.pack(), bytes.length);
        for (int i = 0; i < bytes.length; i++) {
            is(what + ": packed(" + i + ")", x.packed(i), bytes[i]);
        }
        is(what + ": packed behind it", x.packed(bytes.length), NONE);
    }

    final void outIs(String what, SortTransform x, String bits) {
        List<Integer> bytes = PlainModel.bytesOf(bits);
        is(what + ": write()", x.write(), bytes.size());
        for (int i = 0; i < bytes.size(); i++) {
            is(what + ": out(" + i + ")", x.out(i), bytes.get(i));
        }
        is(what + ": out behind it", x.out(bytes.size()), NONE);
    }

    /** The tape's bytes, without a change of it; the tape has just these. */
    final void tapeIs(String what, SortTransform x, int... bytes) {
        for (int i = 0; i < bytes.length; i++) {
            is(what + ": spoil(" + i + ", 0)", x.spoil(i, 0), bytes[i]);
        }
        is(what + ": spoil behind it", x.spoil(bytes.length, 0), BAD);
        is(what + ": cut at its end", x.cut(bytes.length), bytes.length);
    }

    static void putOnTape(SortTransform x, String bits) {
        List<Integer> bytes = PlainModel.bytesOf(bits);
        for (int i = 0; i < bytes.size(); i += 8) {
            int n = Math.min(8, bytes.size() - i);
            long row = 0;
            for (int j = n - 1; j >= 0; j--) {
                row = row << 8 | bytes.get(i + j);
            }
            x.tape(row, n);
        }
    }

    static String bits(long value, int width) {
        return PlainModel.bitsOf(value, width);
    }
}
