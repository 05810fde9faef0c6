/** Long runs of calls, chosen by a fixed row of numbers, whose answers are compared with the plain model's. */
public final class ModelTests {
    private static final int CALLS = 512;
    private final Due due = new Due();
    private final int[] faultsMet = new int[13];
    private long seed = 20261115L;
    private SortTransform made;
    private PlainModel model;
    private int run;

    public static void main(String[] args) {
        ModelTests tests = new ModelTests();
        for (int run = 0; run < 420; run++) {
            tests.runCalls(run, run % 10 == 0 ? 600 : run % 3 == 0 ? 9 : 40);
        }
        for (int fault = 1; fault <= 12; fault++) {
            tests.due.isTrue("the runs meet FAULT " + fault, tests.faultsMet[fault] > 0);
        }
        tests.due.end("ModelTests");
    }

    private int pick(int below) {
        seed = seed * 6364136223846793005L + 1442695040888963407L;
        return (int) Long.remainderUnsigned(seed >>> 33, below);
    }

    private long pickLong() {
        long high = pick(1 << 30);
        return high << 34 ^ (long) pick(1 << 30) << 16 ^ pick(1 << 16);
    }

    private void begin(int number) {
        run = number;
        made = new SortTransform();
        model = new PlainModel();
    }

    private void runCalls(int number, int most) {
        begin(number);
        // Large rows cost the plain model much: fewer calls then.
        int calls = most > 100 ? 90 : 200;
        for (int i = 0; i < calls && i < CALLS - 8; i++) {
            int what = pick(100);
            if (what < 16) {
                bytesCall(what, most);
            } else if (what < 40) {
                turnsCall();
            } else if (what < 50) {
                symbolsCall();
            } else if (what < 66) {
                streamsCall();
            } else {
                spoiledReading();
                i += 4;
            }
        }
    }

    private int near(int size) {
        int kind = pick(12);
        if (kind == 0) {
            return -1 - pick(3);
        }
        return kind == 1 ? size + pick(3) : pick(size + 1);
    }

    private int odd(int usual) {
        int kind = pick(60);
        return kind == 0 ? Integer.MAX_VALUE : kind == 1 ? Integer.MIN_VALUE : usual;
    }

    private void bytesCall(int what, int most) {
        if (what < 2 || model.size() > most && what < 8) {
            due.is(run + ": clear()", made.clear(), model.clear());
        } else if (what < 7) {
            feedSome(most);
        } else if (what < 10) {
            int n = odd(pick(8) == 0 ? pick(700) - 20 : 1 + pick(Math.min(most, 12)));
            int b = pick(9) == 0 ? pick(300) - 20 : 97 + pick(3);
            due.is(run + ": fill(" + n + ", " + b + ")", made.fill(n, b), model.fill(n, b));
        } else if (what < 12) {
            int i = odd(near(model.size()));
            due.is(run + ": octet(" + i + ")", made.octet(i), model.octet(i));
        } else {
            due.is(run + ": pack()", made.pack(), model.pack());
            int i = odd(near(model.pack()));
            due.is(run + ": packed(" + i + ")", made.packed(i), model.packed(i));
        }
    }

    private void feedSome(int most) {
        int kind = pick(4);
        long word = pickLong();
        int times = 1 + pick(Math.max(2, most / 8));
        for (int i = 0; i < times; i++) {
            long row = kind == 0 ? pickLong() : kind == 1 ? word : kind == 2 ? fewLetters(2) : fewLetters(5);
            int n = pick(30) == 0 ? pick(12) - 2 : kind == 1 ? 1 + (int) (word & 7) : 8 - pick(2);
            due.is(run + ": feed(" + row + ", " + n + ")", made.feed(row, n), model.feed(row, n));
        }
    }

    private long fewLetters(int letters) {
        long row = 0;
        for (int i = 0; i < 8; i++) {
            row = row << 8 | 97 + pick(letters);
        }
        return row;
    }

    private void turnsCall() {
        int size = model.size();
        int k = odd(near(size));
        switch (pick(8)) {
            case 0 -> due.is(run + ": order(" + k + ")", made.order(k), model.order(k));
            case 1 -> due.is(run + ": last(" + k + ")", made.last(k), model.last(k));
            case 2 -> due.is(run + ": origin()", made.origin(), model.origin());
            case 3 -> due.is(run + ": rounds()", made.rounds(), model.rounds());
            case 4 -> {
                int m = odd(pick(67));
                int i = odd(near(Math.max(0, Math.min(m, 66))));
                due.is(run + ": start(" + m + ", " + i + ")", made.start(m, i), model.start(m, i));
            }
            case 5 -> stepsCall();
            case 6 -> due.is(run + ": ring(" + k + ")", made.ring(k), model.ring(k));
            default -> backCall(k);
        }
    }

    private void stepsCall() {
        int n = odd(pick(14) == 0 ? pick(12) - 2 : 1 + pick(8));
        int what = odd(pick(14) == 0 ? pick(6) - 2 : pick(3));
        long bytes = pickLong();
        if (pick(5) > 0 && model.size() > 0) {
            int from = pick(model.size());
            for (int j = 0; j < 8; j++) {
                bytes = bytes << 8 | model.octet((from + j) % model.size());
            }
        }
        due.is(run + ": steps(" + bytes + ", " + n + ", " + what + ")", made.steps(bytes, n, what),
                model.steps(bytes, n, what));
    }

    private void backCall(int k) {
        if (pick(2) == 0 && model.size() > 0) {
            becomeLast();
            k = pick(3) == 0 ? pick(model.size()) : lastOrigin;
        }
        due.is(run + ": back(" + k + ")", made.back(k), model.back(k));
        sameBlock();
    }

    private int lastOrigin;

    /** Makes the block its own LAST, so that going back from the origin is right. */
    private void becomeLast() {
        lastOrigin = model.origin();
        int size = model.size();
        int[] last = new int[size];
        for (int k = 0; k < size; k++) {
            last[k] = made.last(k);
        }
        due.is(run + ": clear()", made.clear(), model.clear());
        for (int b : last) {
            due.is(run + ": feed(" + b + ", 1)", made.feed(b, 1), model.feed(b, 1));
        }
    }

    private void sameBlock() {
        for (int i = -1; i <= model.size(); i++) {
            due.is(run + ": octet(" + i + ")", made.octet(i), model.octet(i));
        }
    }

    private void symbolsCall() {
        int i = odd(near(model.size() + 2));
        int what = odd(pick(12) == 0 ? pick(5) - 2 : pick(2));
        switch (pick(3)) {
            case 0 -> due.is(run + ": symbol(" + i + ")", made.symbol(i), model.symbol(i));
            case 1 -> due.is(run + ": code(" + i + ", " + what + ")", made.code(i, what), model.code(i, what));
            default -> due.is(run + ": bits()", made.bits(), model.bits());
        }
    }

    private void streamsCall() {
        switch (pick(9)) {
            case 0 -> writeCall();
            case 1 -> {
                int i = odd(near(60));
                due.is(run + ": out(" + i + ")", made.out(i), model.out(i));
            }
            case 2 -> {
                long row = pickLong();
                int n = odd(pick(9) == 0 ? pick(12) - 2 : 1 + pick(8));
                due.is(run + ": tape(" + row + ", " + n + ")", made.tape(row, n), model.tape(row, n));
            }
            case 3 -> due.is(run + ": take()", made.take(), model.take());
            case 4 -> spoilCall(odd(near(model.tapeSize())), odd(pick(9) == 0 ? pick(300) - 20 : pick(256)));
            case 5 -> {
                int n = odd(near(model.tapeSize()));
                due.is(run + ": cut(" + n + ")", made.cut(n), model.cut(n));
            }
            case 6 -> readCall();
            case 7 -> due.is(run + ": faultAt()", made.faultAt(), model.faultAt());
            default -> due.is(run + ": check()", made.check(), model.check());
        }
    }

    private void writeCall() {
        int size = model.write();
        due.is(run + ": write()", made.write(), size);
        for (int i = -1; i <= size; i++) {
            due.is(run + ": out(" + i + ")", made.out(i), model.out(i));
        }
    }

    private void spoilCall(int i, int mask) {
        due.is(run + ": spoil(" + i + ", " + mask + ")", made.spoil(i, mask), model.spoil(i, mask));
    }

    private void readCall() {
        int answer = model.read();
        due.is(run + ": read()", made.read(), answer);
        due.is(run + ": faultAt()", made.faultAt(), model.faultAt());
        due.is(run + ": cut(0) of an empty tape", made.cut(0), model.cut(0));
        if (answer < 0) {
            faultsMet[-10 - answer]++;
        }
        sameBlock();
    }

    private void spoiledReading() {
        if (pick(3) == 0) {
            writeCall();
        }
        due.is(run + ": take()", made.take(), model.take());
        int times = pick(4);
        for (int i = 0; i < times && model.tapeSize() > 0; i++) {
            // A bit of the body, or sometimes of the head.
            int from = pick(4) == 0 ? 0 : Math.min(10, model.tapeSize() - 1);
            spoilCall(from + pick(model.tapeSize() - from), 1 << pick(8));
        }
        if (pick(6) == 0 && model.tapeSize() > 0) {
            int n = pick(model.tapeSize());
            due.is(run + ": cut(" + n + ")", made.cut(n), model.cut(n));
        }
        if (pick(9) == 0) {
            long row = pick(2);
            due.is(run + ": tape(" + row + ", 1)", made.tape(row, 1), model.tape(row, 1));
        }
        readCall();
    }
}
