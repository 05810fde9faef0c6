import java.util.Arrays;

/**
 * A block of bytes, the order of all its turns, and the stream of bits that is made of it and read again.
 * All rows are made once, in the constructors, and the block and the streams share one bench of them:
 * no call makes an object, and a new object stays small.
 */
public final class SortTransform {
    public static final int BAD = -1, NONE = -2, FULL = -3;

    private static final int MOST_BLOCK = 600;
    private static final int MOST_ROW = 900;
    // Each four bytes of the block may bring one more.
    private static final int MOST_PACKED = MOST_BLOCK / 4 * 5;
    // The longest stream that the limits allow has 1910 bytes: 751 codes of 12 bits, and 258 lengths far apart.
    private static final int MOST_OUT = 2000;
    private static final int MOST_TAPE = 3000;
    private static final int BYTES = 256;
    private static final int MOST_SYMBOLS = BYTES + 2;
    private static final int MOST_PARTS = 64;

    private static final int RUN = 4;
    private static final int MOST_MORE = 251;
    private static final int LONGEST_CODE = 12;

    private static final int MARK = 21332;
    private static final int CHECK_MASK = 79764919;
    private static final int SIXTEEN = 16;

    private static final int AT_MARK = 0;
    private static final int AT_COUNT = 2;
    private static final int AT_ORIGIN = 4;
    private static final int AT_CHECK = 6;

    private static final int TAPE_ENDS = 1;
    private static final int NOT_BEGUN_SO = 2;
    private static final int TOO_MANY = 3;
    private static final int NO_SUCH_ORIGIN = 4;
    private static final int NO_BYTES_LISTED = 5;
    private static final int WRONG_LENGTH = 6;
    private static final int CODES_NOT_WHOLE = 7;
    private static final int WRONG_SYMBOL = 8;
    private static final int NOT_RIGHT = 9;
    private static final int NOT_PACKED = 10;
    private static final int OTHER_CHECK = 11;
    private static final int NOT_AT_END = 12;

    private final Row block = new Row(MOST_BLOCK);
    private final Row packedBlock = new Row(MOST_PACKED);
    private final Bench bench = new Bench();
    private final StreamWriter writer = new StreamWriter();
    private final StreamReader reader = new StreamReader();
    private boolean packFresh;
    private boolean turnsFresh;
    private boolean codesFresh;

    public SortTransform() {
    }

    // ---- bytes

    public int feed(long row, int n) {
        int answer = addLowest(block, row, n);
        if (answer > 0) {
            blockChanged();
        }
        return answer;
    }

    public int fill(int n, int b) {
        if (n < 1 || n > MOST_BLOCK || !isByte(b)) {
            return BAD;
        }
        if (!block.hasRoom(n)) {
            return FULL;
        }
        block.addMany(n, b);
        blockChanged();
        return block.size;
    }

    public int clear() {
        int had = block.size;
        block.shorten(0);
        blockChanged();
        return had;
    }

    public int octet(int i) {
        return block.at(i);
    }

    public int pack() {
        freshenPack();
        return packedBlock.size;
    }

    public int packed(int i) {
        freshenPack();
        return packedBlock.at(i);
    }

    // ---- turns, of the block itself

    public int order(int k) {
        freshenTurns();
        return bench.turns.turnAt(k);
    }

    public int last(int k) {
        freshenTurns();
        return bench.turns.lasts.at(k);
    }

    public int origin() {
        freshenTurns();
        return bench.turns.placeOf(0);
    }

    public int rounds() {
        if (block.size == 0) {
            return NONE;
        }
        freshenTurns();
        return bench.turns.doublings;
    }

    public int start(int m, int i) {
        if (m < 1 || m > MOST_PARTS || i < 0 || i >= m) {
            return BAD;
        }
        freshenTurns();
        return bench.turns.placeOf(i * block.size / m);
    }

    public int steps(long bytes, int n, int what) {
        if (n < 1 || n > 8 || what < 0 || what > 2) {
            return BAD;
        }
        freshenTurns();
        int from = NONE;
        int many = 0;
        for (int k = 0; k < block.size; k++) {
            if (turnBegins(bench.turns.turnAt(k), bytes, n)) {
                from = many == 0 ? k : from;
                many++;
            }
        }
        if (what == 2) {
            return many;
        }
        return what == 0 || many == 0 ? from : from + many;
    }

    public int back(int origin) {
        if (block.size == 0) {
            return NONE;
        }
        if (!block.has(origin)) {
            return BAD;
        }
        boolean right = bench.goBack(block, origin);
        block.copyOf(bench.given);
        blockChanged();
        return right ? 1 : 0;
    }

    public int ring(int k) {
        if (!block.has(k)) {
            return BAD;
        }
        bench.chain.link(block);
        return bench.chain.ringLength(k);
    }

    // ---- symbols, of the block itself

    public int symbol(int i) {
        freshenCodes();
        return bench.symbols.at(i);
    }

    public int code(int symbol, int what) {
        freshenCodes();
        Codes codes = bench.codes;
        if (!codes.has(symbol) || what < 0 || what > 1) {
            return BAD;
        }
        return what == 0 ? codes.lengthOf(symbol) : codes.valueOf(symbol);
    }

    public int bits() {
        freshenCodes();
        int sum = 0;
        for (int i = 0; i < bench.symbols.count; i++) {
            sum += bench.codes.lengthOf(bench.symbols.at(i));
        }
        return sum;
    }

    // ---- streams

    public int write() {
        freshenPack();
        writer.writeStream(packedBlock, checkOf(block), bench);
        benchUsed();
        return writer.out.size;
    }

    public int out(int i) {
        return writer.out.at(i);
    }

    public int tape(long row, int n) {
        return addLowest(reader.tape, row, n);
    }

    public int take() {
        reader.tape.copyOf(writer.out);
        return reader.tape.size;
    }

    public int spoil(int i, int mask) {
        if (!reader.tape.has(i) || !isByte(mask)) {
            return BAD;
        }
        reader.tape.joinWith(i, mask);
        return reader.tape.at(i);
    }

    public int cut(int n) {
        int had = reader.tape.size;
        if (n < 0 || n > had) {
            return BAD;
        }
        reader.tape.shorten(n);
        return had;
    }

    public int read() {
        boolean good = reader.readStream(bench);
        benchUsed();
        reader.tape.shorten(0);
        if (!good) {
            return -10 - reader.fault;
        }
        block.copyOf(bench.unpacked);
        blockChanged();
        return block.size;
    }

    public int faultAt() {
        return reader.faultPlace;
    }

    public int check() {
        return checkOf(block);
    }

    // ---- what the calls share

    private void blockChanged() {
        packFresh = false;
        benchUsed();
    }

    /** What is on the bench is no longer of the block as it is. */
    private void benchUsed() {
        turnsFresh = false;
        codesFresh = false;
    }

    private void freshenPack() {
        if (!packFresh) {
            packInto(block, packedBlock);
            packFresh = true;
        }
    }

    private void freshenTurns() {
        if (!turnsFresh) {
            bench.turns.sortTurns(block);
            turnsFresh = true;
        }
    }

    private void freshenCodes() {
        if (!codesFresh) {
            bench.symbols.makeFrom(block);
            bench.codes.makeFrom(bench.symbols);
            codesFresh = true;
        }
    }

    private boolean turnBegins(int turn, long bytes, int n) {
        if (n > block.size) {
            return false;
        }
        for (int j = 0; j < n; j++) {
            int place = turn + j < block.size ? turn + j : turn + j - block.size;
            if (block.at(place) != byteOf(bytes, n - 1 - j)) {
                return false;
            }
        }
        return true;
    }

    private static int addLowest(Row to, long bytes, int n) {
        if (n < 1 || n > 8) {
            return BAD;
        }
        if (!to.hasRoom(n)) {
            return FULL;
        }
        for (int j = 0; j < n; j++) {
            to.add(byteOf(bytes, j));
        }
        return to.size;
    }

    private static int byteOf(long bytes, int place) {
        return (int) (bytes >>> (8 * place)) & 255;
    }

    private static boolean isByte(int b) {
        return b >= 0 && b < BYTES;
    }

    private static int checkOf(Row row) {
        int c = -1;
        for (int i = 0; i < row.size; i++) {
            c ^= row.at(i) << 24;
            for (int turn = 0; turn < 8; turn++) {
                c = c < 0 ? c << 1 ^ CHECK_MASK : c << 1;
            }
        }
        return ~c;
    }

    private static void packInto(Row from, Row to) {
        to.shorten(0);
        int alike = 0;
        for (int i = 0; i < from.size; i++) {
            int b = from.at(i);
            alike = b == from.at(i - 1) ? alike + 1 : 1;
            to.add(b);
            if (alike == RUN) {
                int more = countMore(from, i + 1, b);
                to.add(more);
                i += more;
                alike = 0;
            }
        }
    }

    private static int countMore(Row row, int from, int b) {
        int more = 0;
        while (more < MOST_MORE && row.at(from + more) == b) {
            more++;
        }
        return more;
    }

    /** Answers false if what it unpacks to has no room. */
    private static boolean unpackInto(Row from, Row to) {
        to.shorten(0);
        int alike = 0;
        for (int i = 0; i < from.size; i++) {
            int b = from.at(i);
            boolean isCount = alike == RUN;
            int many = isCount ? b : 1;
            if (!to.hasRoom(many)) {
                return false;
            }
            to.addMany(many, isCount ? from.at(i - 1) : b);
            // A count is no byte of a run: from 0 on, even a byte that is like it is the first of its own.
            if (isCount) {
                alike = 0;
            } else {
                alike = b == from.at(i - 1) ? alike + 1 : 1;
            }
        }
        return true;
    }

    /** A row of bytes with a length that it never passes. */
    private static final class Row {
        private final int[] bytes;
        private int size;

        Row(int most) {
            bytes = new int[Math.max(most, 0)];
        }

        boolean has(int i) {
            return i >= 0 && i < size;
        }

        boolean hasRoom(int n) {
            return n <= bytes.length - size;
        }

        int at(int i) {
            return i >= 0 && i < size ? bytes[i] : NONE;
        }

        void add(int b) {
            if (size < bytes.length) {
                bytes[size] = b;
                size++;
            }
        }

        void addMany(int n, int b) {
            for (int i = 0; i < n; i++) {
                add(b);
            }
        }

        void joinWith(int i, int mask) {
            if (has(i)) {
                bytes[i] ^= mask;
            }
        }

        void shorten(int n) {
            if (n >= 0 && n < size) {
                size = n;
            }
        }

        void copyOf(Row other) {
            size = 0;
            for (int i = 0; i < other.size; i++) {
                add(other.at(i));
            }
        }

        boolean isLike(Row other) {
            if (size != other.size) {
                return false;
            }
            for (int i = 0; i < size; i++) {
                if (at(i) != other.at(i)) {
                    return false;
                }
            }
            return true;
        }
    }

    /** The turns of a row in order. They are told apart by their first 1, 2, 4 .. bytes, until no more are. */
    private static final class Turns {
        private final Row lasts = new Row(MOST_ROW);
        private final int[] order = new int[MOST_ROW];
        // While the turns are put in order, this holds their new ranks.
        private final int[] places = new int[MOST_ROW];
        private final int[] ranks = new int[MOST_ROW];
        private final int[] line = new int[MOST_ROW];
        private final int[] offsets = new int[MOST_ROW + 1];
        private int size;
        private int rankCount;
        private int doublings;

        int turnAt(int k) {
            return k >= 0 && k < size ? order[k] : NONE;
        }

        int placeOf(int turn) {
            return turn >= 0 && turn < size ? places[turn] : NONE;
        }

        void sortTurns(Row row) {
            size = Math.min(row.size, MOST_ROW);
            for (int p = 0; p < size; p++) {
                ranks[p] = row.at(p);
            }
            rankCount = BYTES;
            lineUp();
            sortByRank();
            numberRanks(0);
            doublings = 0;
            for (int length = 1; length < size && rankCount < size; length *= 2) {
                int before = rankCount;
                shift(length);
                sortByRank();
                numberRanks(length);
                // What one doubling does not tell apart, no later one does.
                if (rankCount == before) {
                    break;
                }
                doublings++;
            }
            // Like turns have one rank, and come by their numbers only if sorted once more from the left.
            lineUp();
            sortByRank();
            notePlaces(row);
        }

        private void lineUp() {
            for (int p = 0; p < size; p++) {
                line[p] = p;
            }
        }

        /** What is in order by its bytes from 'length' on needs only a steady sort by the ranks before these. */
        private void shift(int length) {
            for (int k = 0; k < size; k++) {
                line[k] = around(order[k] - length);
            }
        }

        /** Puts the turns of the line in order by their ranks, like ones as they stand in the line. */
        private void sortByRank() {
            for (int rank = 0; rank <= rankCount; rank++) {
                offsets[rank] = 0;
            }
            for (int k = 0; k < size; k++) {
                offsets[ranks[k] + 1]++;
            }
            for (int rank = 0; rank < rankCount; rank++) {
                offsets[rank + 1] += offsets[rank];
            }
            for (int k = 0; k < size; k++) {
                int rank = ranks[line[k]];
                order[offsets[rank]] = line[k];
                offsets[rank]++;
            }
        }

        /** Gives new ranks by the ranks of two places: a turn's own, and 'length' behind it. */
        private void numberRanks(int length) {
            int rank = -1;
            int before = -1;
            int behindBefore = -1;
            for (int k = 0; k < size; k++) {
                int turn = order[k];
                int behind = ranks[around(turn + length)];
                if (ranks[turn] != before || behind != behindBefore) {
                    rank++;
                }
                before = ranks[turn];
                behindBefore = behind;
                places[turn] = rank;
            }
            System.arraycopy(places, 0, ranks, 0, size);
            rankCount = rank + 1;
        }

        private int around(int place) {
            if (place < 0) {
                return place + size;
            }
            return place < size ? place : place - size;
        }

        private void notePlaces(Row row) {
            lasts.shorten(0);
            for (int k = 0; k < size; k++) {
                int turn = order[k];
                places[turn] = k;
                lasts.add(row.at(turn == 0 ? size - 1 : turn - 1));
            }
        }
    }

    /** NEXT of all places of a LAST, and the way back along it. */
    private static final class Chain {
        private final int[] next = new int[MOST_ROW];
        private final int[] offsets = new int[BYTES + 1];
        private int size;

        void link(Row last) {
            size = Math.min(last.size, MOST_ROW);
            Arrays.fill(offsets, 0);
            for (int k = 0; k < size; k++) {
                offsets[last.at(k) + 1]++;
            }
            for (int b = 0; b < BYTES; b++) {
                offsets[b + 1] += offsets[b];
            }
            for (int k = 0; k < size; k++) {
                int b = last.at(k);
                next[offsets[b]] = k;
                offsets[b]++;
            }
        }

        int ringLength(int k) {
            if (k < 0 || k >= size) {
                return BAD;
            }
            int place = next[k];
            int length = 1;
            while (place != k && length < size) {
                place = next[place];
                length++;
            }
            return length;
        }

        void follow(Row last, int origin, Row to) {
            to.shorten(0);
            int place = origin;
            for (int i = 0; i < size && place >= 0 && place < size; i++) {
                place = next[place];
                to.add(last.at(place));
            }
        }
    }

    /** THE LIST: bytes of which each one that is named goes to the front. */
    private static final class FrontList {
        private final int[] bytes = new int[BYTES];
        private int size;

        void makeEmpty() {
            size = 0;
        }

        void add(int b) {
            if (size < BYTES) {
                bytes[size] = b;
                size++;
            }
        }

        void listBytes(Row row) {
            Arrays.fill(bytes, 0);
            for (int i = 0; i < row.size; i++) {
                bytes[row.at(i)] = 1;
            }
            size = 0;
            // The bytes that are there close up to the left, never past the mark that is looked at.
            for (int b = 0; b < BYTES; b++) {
                if (bytes[b] == 1) {
                    bytes[size] = b;
                    size++;
                }
            }
        }

        int placeOf(int b) {
            int place = 0;
            while (place < size && bytes[place] != b) {
                place++;
            }
            return place;
        }

        int at(int place) {
            return place >= 0 && place < size ? bytes[place] : NONE;
        }

        void bringToFront(int place) {
            if (place < 0 || place >= size) {
                return;
            }
            int b = bytes[place];
            for (int i = place; i > 0; i--) {
                bytes[i] = bytes[i - 1];
            }
            bytes[0] = b;
        }
    }

    /** SYMBOLS of a row, the END as the last one. */
    private static final class Symbols {
        private final FrontList list = new FrontList();
        private final int[] row = new int[MOST_ROW + 1];
        private int count;
        private int end;

        int at(int i) {
            return i >= 0 && i < count ? row[i] : NONE;
        }

        void makeFrom(Row bytes) {
            list.listBytes(bytes);
            count = 0;
            end = list.size + 1;
            int noughts = 0;
            for (int i = 0; i < bytes.size; i++) {
                int place = list.placeOf(bytes.at(i));
                if (place == 0) {
                    noughts++;
                } else {
                    addDigits(noughts);
                    noughts = 0;
                    addSymbol(place + 1);
                    list.bringToFront(place);
                }
            }
            addDigits(noughts);
            addSymbol(end);
        }

        private void addDigits(int noughts) {
            for (int left = noughts; left > 0; left = (left - 1) / 2) {
                addSymbol((left - 1) % 2);
            }
        }

        private void addSymbol(int symbol) {
            if (count < row.length) {
                row[count] = symbol;
                count++;
            }
        }
    }

    /** LENGTHS by joining the two lightest again and again; what is there stands in a heap. */
    private static final class Joiner {
        // A key holds a weight and, below it, the least symbol, so that the least key is what is joined next.
        private static final int LEAST_BITS = 9;
        private static final int LEAST_MASK = (1 << LEAST_BITS) - 1;
        private final int[] heap = new int[MOST_SYMBOLS];
        private final int[] nodeOfLeast = new int[MOST_SYMBOLS];
        private final int[] parents = new int[2 * MOST_SYMBOLS];
        private final int[] depths = new int[2 * MOST_SYMBOLS];
        private int size;

        /** Sets the lengths of the symbols below 'count', and answers the longest. */
        int findLengths(int[] weights, int count, int[] lengths) {
            size = 0;
            for (int symbol = 0; symbol < count; symbol++) {
                nodeOfLeast[symbol] = symbol;
                push(weights[symbol] << LEAST_BITS | symbol);
            }
            int nodes = count;
            for (int joining = 1; joining < count; joining++) {
                joinTwo(nodes);
                nodes++;
            }
            return measureDepths(count, nodes, lengths);
        }

        private void joinTwo(int node) {
            int one = pop();
            int other = pop();
            int least = Math.min(one & LEAST_MASK, other & LEAST_MASK);
            parents[nodeOfLeast[one & LEAST_MASK]] = node;
            parents[nodeOfLeast[other & LEAST_MASK]] = node;
            nodeOfLeast[least] = node;
            int weight = (one >> LEAST_BITS) + (other >> LEAST_BITS);
            push(weight << LEAST_BITS | least);
        }

        private int measureDepths(int count, int nodes, int[] lengths) {
            int longest = 0;
            for (int node = nodes - 1; node >= 0; node--) {
                depths[node] = node == nodes - 1 ? 0 : depths[parents[node]] + 1;
                if (node < count) {
                    lengths[node] = depths[node];
                    longest = Math.max(longest, depths[node]);
                }
            }
            return longest;
        }

        private void push(int key) {
            if (size >= heap.length) {
                return;
            }
            int at = size;
            size++;
            while (at > 0 && heap[(at - 1) / 2] > key) {
                heap[at] = heap[(at - 1) / 2];
                at = (at - 1) / 2;
            }
            heap[at] = key;
        }

        private int pop() {
            if (size == 0) {
                return 0;
            }
            int least = heap[0];
            size--;
            int key = heap[size];
            int at = 0;
            for (int child = 1; child < size; child = 2 * at + 1) {
                if (child + 1 < size && heap[child + 1] < heap[child]) {
                    child++;
                }
                if (heap[child] > key) {
                    break;
                }
                heap[at] = heap[child];
                at = child;
            }
            heap[at] = key;
            return least;
        }
    }

    /** LENGTHS and CODES of SYMBOLS 0 .. END. */
    private static final class Codes {
        // Far above the halvings after which every weight is 1 or 2.
        private static final int MOST_HALVINGS = 40;
        private final Joiner joiner = new Joiner();
        private final int[] weights = new int[MOST_SYMBOLS];
        private final int[] lengths = new int[MOST_SYMBOLS];
        private final int[] values = new int[MOST_SYMBOLS];
        private final int[] byLength = new int[MOST_SYMBOLS];
        private final int[] perLength = new int[LONGEST_CODE + 1];
        private int count;

        boolean has(int symbol) {
            return symbol >= 0 && symbol < count;
        }

        int lengthOf(int symbol) {
            return has(symbol) ? lengths[symbol] : 0;
        }

        int valueOf(int symbol) {
            return has(symbol) ? values[symbol] : 0;
        }

        int symbolAt(int place) {
            return has(place) ? byLength[place] : NONE;
        }

        void makeFrom(Symbols symbols) {
            count = Math.min(symbols.end + 1, MOST_SYMBOLS);
            weigh(symbols);
            for (int halvings = 0; halvings < MOST_HALVINGS; halvings++) {
                if (joiner.findLengths(weights, count, lengths) <= LONGEST_CODE) {
                    break;
                }
                for (int symbol = 0; symbol < count; symbol++) {
                    weights[symbol] = weights[symbol] / 2 + 1;
                }
            }
            arrange();
        }

        private void weigh(Symbols symbols) {
            Arrays.fill(weights, 0);
            for (int i = 0; i < symbols.count; i++) {
                int symbol = symbols.at(i);
                if (has(symbol)) {
                    weights[symbol]++;
                }
            }
            for (int symbol = 0; symbol < count; symbol++) {
                weights[symbol] = Math.max(weights[symbol], 1);
            }
        }

        /** Takes lengths that were read, each 1 to 12. */
        void beginLengths(int symbols) {
            count = Math.min(Math.max(symbols, 0), MOST_SYMBOLS);
            Arrays.fill(lengths, LONGEST_CODE);
        }

        void setLength(int symbol, int length) {
            if (has(symbol)) {
                lengths[symbol] = length;
            }
        }

        /** Puts the symbols by their lengths and gives them their codes. */
        void arrange() {
            int found = 0;
            int value = 0;
            for (int length = 1; length <= LONGEST_CODE; length++) {
                int before = found;
                value <<= 1;
                for (int symbol = 0; symbol < count; symbol++) {
                    if (lengths[symbol] == length) {
                        byLength[found] = symbol;
                        values[symbol] = value;
                        value++;
                        found++;
                    }
                }
                perLength[length] = found - before;
            }
        }

        /** Whether every row of bits begins with just one code. */
        boolean areWhole() {
            int sum = 0;
            for (int length = 1; length <= LONGEST_CODE; length++) {
                sum += perLength[length] << (LONGEST_CODE - length);
            }
            return sum == 1 << LONGEST_CODE;
        }
    }

    /** What the block's own answers and the streams both work with; whoever uses it writes over it. */
    private static final class Bench {
        private final Turns turns = new Turns();
        private final Chain chain = new Chain();
        private final Symbols symbols = new Symbols();
        private final Codes codes = new Codes();
        private final Row given = new Row(MOST_ROW);
        private final Row unpacked = new Row(MOST_BLOCK);
        private final Row again = new Row(MOST_PACKED);

        /** Puts into 'given' what LAST gives back from the origin, and answers whether it is RIGHT. */
        boolean goBack(Row last, int origin) {
            chain.link(last);
            chain.follow(last, origin, given);
            turns.sortTurns(given);
            return turns.lasts.isLike(last) && (last.size == 0 || turns.placeOf(0) == origin);
        }

        /** Puts into 'unpacked' what 'given' unpacks to, and answers whether it is packed as told. */
        boolean unpackGiven() {
            if (!unpackInto(given, unpacked)) {
                return false;
            }
            packInto(unpacked, again);
            return again.isLike(given);
        }
    }

    /** Makes THE STREAM of a row that is packed. */
    private static final class StreamWriter {
        private final Row out = new Row(MOST_OUT);
        private int held;
        private int heldBits;

        void writeStream(Row packed, int check, Bench bench) {
            out.shorten(0);
            held = 0;
            heldBits = 0;
            bench.turns.sortTurns(packed);
            put(MARK, 16);
            put(packed.size, 16);
            put(packed.size == 0 ? 0 : bench.turns.placeOf(0), 16);
            put(check, 32);
            if (packed.size > 0) {
                bench.symbols.makeFrom(bench.turns.lasts);
                bench.codes.makeFrom(bench.symbols);
                putList(bench.symbols.list);
                putLengths(bench.codes);
                putCodes(bench.symbols, bench.codes);
            }
            put(0, (8 - heldBits) % 8);
        }

        private void put(int value, int width) {
            for (int place = width - 1; place >= 0; place--) {
                held = held << 1 | value >>> place & 1;
                heldBits++;
                if (heldBits == 8) {
                    out.add(held);
                    held = 0;
                    heldBits = 0;
                }
            }
        }

        private void putList(FrontList list) {
            int sixteenths = 0;
            for (int sixteenth = 0; sixteenth < SIXTEEN; sixteenth++) {
                sixteenths |= marksIn(list, sixteenth) == 0 ? 0 : markOf(sixteenth);
            }
            put(sixteenths, SIXTEEN);
            for (int sixteenth = 0; sixteenth < SIXTEEN; sixteenth++) {
                int marks = marksIn(list, sixteenth);
                if (marks != 0) {
                    put(marks, SIXTEEN);
                }
            }
        }

        private static int marksIn(FrontList list, int sixteenth) {
            int marks = 0;
            for (int i = 0; i < list.size; i++) {
                int b = list.at(i);
                if (b / SIXTEEN == sixteenth) {
                    marks |= markOf(b % SIXTEEN);
                }
            }
            return marks;
        }

        private static int markOf(int place) {
            return 1 << (SIXTEEN - 1 - place);
        }

        private void putLengths(Codes codes) {
            int atHand = codes.lengthOf(0);
            put(atHand, 4);
            for (int symbol = 0; symbol < codes.count; symbol++) {
                int length = codes.lengthOf(symbol);
                for (; atHand < length; atHand++) {
                    put(2, 2);
                }
                for (; atHand > length; atHand--) {
                    put(3, 2);
                }
                put(0, 1);
            }
        }

        private void putCodes(Symbols symbols, Codes codes) {
            for (int i = 0; i < symbols.count; i++) {
                int symbol = symbols.at(i);
                put(codes.valueOf(symbol), codes.lengthOf(symbol));
            }
        }
    }

    /** Reads its tape. Each part answers false as soon as it has met a fault. */
    private static final class StreamReader {
        private final Row tape = new Row(MOST_TAPE);
        private final Row last = new Row(MOST_ROW);
        private int position;
        private int count;
        private int origin;
        private int check;
        private int lengthAtHand;
        private int fault;
        private int faultPlace = NONE;

        boolean readStream(Bench bench) {
            position = 0;
            fault = 0;
            faultPlace = NONE;
            last.shorten(0);
            FrontList list = bench.symbols.list;
            Codes codes = bench.codes;
            return readHead()
                    && (count == 0 || readList(list) && readLengths(codes, list.size + 2) && readSymbols(codes, list))
                    && isGivenBack(bench)
                    && isAtEnd();
        }

        private boolean fails(int number, int place) {
            fault = number;
            faultPlace = place;
            return false;
        }

        private boolean tapeEnds() {
            return fails(TAPE_ENDS, tape.size);
        }

        private boolean lacks(int width) {
            return width > 8 * tape.size - position;
        }

        private int next(int width) {
            int value = 0;
            for (int i = 0; i < width && !lacks(1); i++) {
                value = value << 1 | tape.at(byteNow()) >> (7 - position % 8) & 1;
                position++;
            }
            return value;
        }

        private int byteNow() {
            return position / 8;
        }

        private boolean readHead() {
            if (lacks(16)) {
                return tapeEnds();
            }
            if (next(16) != MARK) {
                return fails(NOT_BEGUN_SO, AT_MARK);
            }
            if (lacks(16)) {
                return tapeEnds();
            }
            count = next(16);
            if (count > MOST_ROW) {
                return fails(TOO_MANY, AT_COUNT);
            }
            if (lacks(16)) {
                return tapeEnds();
            }
            origin = next(16);
            if (origin != 0 && origin >= count) {
                return fails(NO_SUCH_ORIGIN, AT_ORIGIN);
            }
            if (lacks(32)) {
                return tapeEnds();
            }
            check = next(32);
            return true;
        }

        private boolean readList(FrontList list) {
            list.makeEmpty();
            int place = byteNow();
            if (lacks(SIXTEEN)) {
                return tapeEnds();
            }
            int sixteenths = next(SIXTEEN);
            if (sixteenths == 0) {
                return fails(NO_BYTES_LISTED, place);
            }
            for (int sixteenth = 0; sixteenth < SIXTEEN; sixteenth++) {
                if (isMarked(sixteenths, sixteenth) && !readSixteenth(list, sixteenth)) {
                    return false;
                }
            }
            return true;
        }

        private boolean readSixteenth(FrontList list, int sixteenth) {
            int place = byteNow();
            if (lacks(SIXTEEN)) {
                return tapeEnds();
            }
            int marks = next(SIXTEEN);
            if (marks == 0) {
                return fails(NO_BYTES_LISTED, place);
            }
            for (int i = 0; i < SIXTEEN; i++) {
                if (isMarked(marks, i)) {
                    list.add(SIXTEEN * sixteenth + i);
                }
            }
            return true;
        }

        private static boolean isMarked(int marks, int place) {
            return (marks >> (SIXTEEN - 1 - place) & 1) == 1;
        }

        private boolean readLengths(Codes codes, int symbols) {
            int place = byteNow();
            if (lacks(4)) {
                return tapeEnds();
            }
            lengthAtHand = next(4);
            if (isNoLength(lengthAtHand)) {
                return fails(WRONG_LENGTH, place);
            }
            codes.beginLengths(symbols);
            for (int symbol = 0; symbol < symbols; symbol++) {
                if (!readLength(codes, symbol)) {
                    return false;
                }
            }
            codes.arrange();
            return codes.areWhole() || fails(CODES_NOT_WHOLE, place);
        }

        private boolean readLength(Codes codes, int symbol) {
            int place = byteNow();
            for (int step = 0; step < 8 * MOST_TAPE && !lacks(1); step++) {
                if (next(1) == 0) {
                    codes.setLength(symbol, lengthAtHand);
                    return true;
                }
                if (lacks(1)) {
                    break;
                }
                lengthAtHand += next(1) == 0 ? 1 : -1;
                if (isNoLength(lengthAtHand)) {
                    return fails(WRONG_LENGTH, place);
                }
            }
            return tapeEnds();
        }

        private static boolean isNoLength(int length) {
            return length < 1 || length > LONGEST_CODE;
        }

        private boolean readSymbols(Codes codes, FrontList list) {
            int end = list.size + 1;
            int worth = 1;
            // Each symbol but the END makes one byte at least, so that one more than 'count' is enough.
            for (int i = 0; i <= count; i++) {
                int place = byteNow();
                int symbol = nextSymbol(codes);
                if (symbol < 0) {
                    return tapeEnds();
                }
                if (symbol == end) {
                    return last.size == count || fails(WRONG_SYMBOL, place);
                }
                boolean isDigit = symbol < 2;
                int many = isDigit ? (symbol + 1) * worth : 1;
                if (many > count - last.size) {
                    return fails(WRONG_SYMBOL, place);
                }
                worth = isDigit ? 2 * worth : 1;
                list.bringToFront(isDigit ? 0 : symbol - 1);
                last.addMany(many, list.at(0));
            }
            return tapeEnds();
        }

        /** NONE if the tape ends in it. */
        private int nextSymbol(Codes codes) {
            int value = 0;
            int firstValue = 0;
            int firstPlace = 0;
            for (int length = 1; length <= LONGEST_CODE && !lacks(1); length++) {
                value = value << 1 | next(1);
                firstValue <<= 1;
                int many = codes.perLength[length];
                if (value - firstValue < many) {
                    return codes.symbolAt(firstPlace + value - firstValue);
                }
                firstValue += many;
                firstPlace += many;
            }
            return NONE;
        }

        private boolean isGivenBack(Bench bench) {
            if (!bench.goBack(last, origin)) {
                return fails(NOT_RIGHT, AT_ORIGIN);
            }
            if (!bench.unpackGiven()) {
                return fails(NOT_PACKED, AT_COUNT);
            }
            return checkOf(bench.unpacked) == check || fails(OTHER_CHECK, AT_CHECK);
        }

        private boolean isAtEnd() {
            int place = byteNow();
            int filling = (8 - position % 8) % 8;
            if (next(filling) != 0) {
                return fails(NOT_AT_END, place);
            }
            return byteNow() == tape.size || fails(NOT_AT_END, byteNow());
        }
    }
}
