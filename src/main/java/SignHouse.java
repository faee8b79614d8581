import java.util.Arrays;

/**
 * A house of signatures: keys are found from a seed, messages are hashed,
 * encoded, signed by the remainders of two primes, and verified.
 */
public final class SignHouse {
    public static final int NONE = -1, BAD = -2, NO = -3, FULL = -4;

    private static final int LEAST_HALF = 31, MOST_HALF = 40;
    private static final int LEAST_ROUNDS = 1, MOST_ROUNDS = 8;
    private static final int MOST_EXAMINED_AT_ONCE = 60;
    private static final int MOST_FED_AT_ONCE = 8;
    private static final int HASH_BYTES = 32;
    private static final int KEY_PARTS = 7;
    private static final int COUNTS = 8;
    private static final int FIRST_DIGESTED_COUNT = 2;

    /** What stands before the hash in every encoded message. */
    private static final int[] HASH_NAME = {
        48, 49, 48, 13, 6, 9, 96, 134, 72, 1, 101, 3, 4, 2, 1, 5, 0, 4, 32
    };

    private final int half;
    private final int size;
    private final int rounds;
    private final Draw draw;
    private final Hunt hunt;
    private final KeyRows keyRows;
    private final Message message;
    private final long[] register;
    private final long[] encodedRow;
    private final long[] powerRow;
    private int signed;
    private int verified;

    public SignHouse(int half, int rounds) {
        this.half = Math.max(LEAST_HALF, Math.min(MOST_HALF, half));
        this.size = 2 * this.half;
        this.rounds = Math.max(LEAST_ROUNDS, Math.min(MOST_ROUNDS, rounds));
        int halfLimbs = (this.half + 3) / 4;
        draw = new Draw();
        hunt = new Hunt(draw, this.half, halfLimbs, this.rounds);
        keyRows = new KeyRows(halfLimbs);
        message = new Message();
        register = new long[2 * halfLimbs];
        encodedRow = new long[2 * halfLimbs];
        powerRow = new long[2 * halfLimbs];
    }

    // ---- seeds, keys

    public int seed(int word) {
        if (hunt.hasBegun()) {
            return NO;
        }
        if (draw.wordCount() >= Draw.MOST_WORDS) {
            return FULL;
        }
        draw.addWord(word);
        return draw.wordCount();
    }

    public int search(int n) {
        if (n < 1 || n > MOST_EXAMINED_AT_ONCE) {
            return BAD;
        }
        if (draw.wordCount() == 0) {
            return NO;
        }
        hunt.begin();
        for (int i = 0; i < n && !keyRows.stand(); i++) {
            hunt.examineNext();
            if (hunt.hasBothPrimes()) {
                keyRows.make(hunt.firstPrime(), hunt.secondPrime());
            }
        }
        return keyRows.stand() ? 1 : 0;
    }

    public int forget() {
        int examined = hunt.examinedCount();
        draw.clear();
        hunt.clear();
        keyRows.clear();
        return examined;
    }

    public int key(int what, int i) {
        if (what < 0 || what >= KEY_PARTS || i < 0 || i >= bytesOfKeyPart(what)) {
            return BAD;
        }
        return keyRows.stand() ? byteOfKeyPart(what, i) : NO;
    }

    public int count(int what) {
        switch (what) {
            case 0: return half;
            case 1: return rounds;
            case 2: return draw.wordCount();
            case 3: return hunt.examinedCount();
            case 4: return hunt.undividedCount();
            case 5: return message.byteCount();
            case 6: return signed;
            case 7: return verified;
            default: return BAD;
        }
    }

    // ---- messages

    public int feed(long w, int n) {
        if (n < 1 || n > MOST_FED_AT_ONCE) {
            return BAD;
        }
        if (message.byteCount() + n > Message.MOST_BYTES) {
            return FULL;
        }
        message.append(w, n);
        return message.byteCount();
    }

    public int cut(int n) {
        int before = message.byteCount();
        if (n < 0 || n > before) {
            return BAD;
        }
        message.keepFirst(n);
        return before - n;
    }

    public int hash(int i) {
        return i < 0 || i >= HASH_BYTES ? BAD : message.hashByte(i);
    }

    public int encoded(int i) {
        return i < 0 || i >= size ? BAD : encodedByte(i);
    }

    // ---- signatures

    public int sign() {
        if (!keyRows.stand()) {
            return NO;
        }
        writeEncoded(encodedRow);
        keyRows.makeSignature(register, encodedRow);
        signed++;
        return 1;
    }

    public int verify() {
        if (!keyRows.stand()) {
            return NO;
        }
        verified++;
        if (!keyRows.isBelowN(register)) {
            return 0;
        }
        keyRows.raisePublic(powerRow, register);
        writeEncoded(encodedRow);
        return Rows.order(powerRow, encodedRow) == 0 ? 1 : 0;
    }

    public int power(boolean byPublic) {
        if (!keyRows.stand() || !keyRows.isBelowN(register)) {
            return NO;
        }
        if (byPublic) {
            keyRows.raisePublic(register, register);
        } else {
            keyRows.raisePrivate(register, register);
        }
        return 1;
    }

    public int encode() {
        writeEncoded(register);
        return 1;
    }

    public int set(int i, int v) {
        if (i < 0 || i >= size || v < 0 || v > 255) {
            return BAD;
        }
        int before = Rows.byteAt(register, size - 1 - i);
        Rows.putByte(register, size - 1 - i, v);
        return before;
    }

    public int get(int i) {
        return i < 0 || i >= size ? BAD : Rows.byteAt(register, size - 1 - i);
    }

    public long digest() {
        long h = 37;
        for (int i = 0; i < size; i++) {
            h = 31 * h + Rows.byteAt(register, size - 1 - i);
        }
        if (keyRows.stand()) {
            h = digestKey(h);
        }
        for (int what = FIRST_DIGESTED_COUNT; what < COUNTS; what++) {
            h = 31 * h + count(what);
        }
        return h;
    }

    private long digestKey(long start) {
        long h = start;
        for (int what = 0; what < KEY_PARTS; what++) {
            for (int i = 0; i < bytesOfKeyPart(what); i++) {
                h = 31 * h + byteOfKeyPart(what, i);
            }
        }
        return h;
    }

    private int bytesOfKeyPart(int what) {
        return what < 2 ? size : half;
    }

    private int byteOfKeyPart(int what, int i) {
        return Rows.byteAt(keyRows.part(what), bytesOfKeyPart(what) - 1 - i);
    }

    private int encodedByte(int i) {
        int hashStart = size - HASH_BYTES;
        int nameStart = hashStart - HASH_NAME.length;
        if (i >= hashStart) {
            return message.hashByte(i - hashStart);
        }
        if (i >= nameStart) {
            int place = i - nameStart;
            return place < HASH_NAME.length ? HASH_NAME[place] : 0;
        }
        if (i == 0 || i == nameStart - 1) {
            return 0;
        }
        return i == 1 ? 1 : 255;
    }

    private void writeEncoded(long[] row) {
        for (int i = 0; i < size; i++) {
            Rows.putByte(row, size - 1 - i, encodedByte(i));
        }
    }

    /** Numbers of 0 or more in rows of limbs: 32 bits in each long, the lowest limb first. */
    private static final class Rows {
        static final long LIMB = 0xFFFFFFFFL;
        static final int LIMB_BITS = 32;

        private Rows() {
        }

        /** Places count from the lowest byte on, for there the rows of every length agree. */
        static int byteAt(long[] row, int place) {
            int limb = place >> 2;
            if (limb < 0 || limb >= row.length) {
                return 0;
            }
            return (int) (row[limb] >>> (8 * (place & 3))) & 255;
        }

        static void putByte(long[] row, int place, int v) {
            int limb = place >> 2;
            if (limb < 0 || limb >= row.length) {
                return;
            }
            int shift = 8 * (place & 3);
            row[limb] = row[limb] & ~(255L << shift) | (v & 255L) << shift;
        }

        static boolean bitAt(long[] row, int place) {
            int limb = place >> 5;
            return limb >= 0 && limb < row.length && (row[limb] >>> (place & 31) & 1) == 1;
        }

        static int bitCount(long[] row) {
            for (int i = row.length - 1; i >= 0; i--) {
                if (row[i] != 0) {
                    return LIMB_BITS * i + 64 - Long.numberOfLeadingZeros(row[i]);
                }
            }
            return 0;
        }

        static void copy(long[] to, long[] from) {
            for (int i = 0; i < to.length; i++) {
                to[i] = i < from.length ? from[i] : 0;
            }
        }

        static void putSmall(long[] to, long value) {
            for (int i = 0; i < to.length; i++) {
                to[i] = i == 0 ? value & LIMB : 0;
            }
        }

        static boolean isOne(long[] row) {
            return bitCount(row) == 1;
        }

        /** Below 0, 0 or above 0 as a is below, equal to or above b: two rows of one length. */
        static int order(long[] a, long[] b) {
            for (int i = Math.min(a.length, b.length) - 1; i >= 0; i--) {
                if (a[i] != b[i]) {
                    return a[i] < b[i] ? -1 : 1;
                }
            }
            return 0;
        }

        static void add(long[] to, long[] b) {
            long carry = 0;
            for (int i = 0; i < to.length; i++) {
                long v = to[i] + (i < b.length ? b[i] : 0) + carry;
                to[i] = v & LIMB;
                carry = v >>> LIMB_BITS;
            }
        }

        /** Whether b was above a; the row then wraps round, and adding what lacks mends it. */
        static boolean subtract(long[] to, long[] a, long[] b) {
            long borrow = 0;
            for (int i = 0; i < to.length && i < a.length && i < b.length; i++) {
                long v = a[i] - b[i] - borrow;
                to[i] = v & LIMB;
                borrow = v < 0 ? 1 : 0;
            }
            return borrow != 0;
        }

        static void lessen(long[] row, long by) {
            long borrow = by;
            for (int i = 0; i < row.length && borrow != 0; i++) {
                long v = row[i] - borrow;
                row[i] = v & LIMB;
                borrow = v < 0 ? 1 : 0;
            }
        }

        /** How often the number could be halved until it was odd. */
        static int halveUntilOdd(long[] row) {
            int most = LIMB_BITS * row.length;
            int halvings = 0;
            while (halvings < most && !bitAt(row, 0)) {
                halve(row);
                halvings++;
            }
            return halvings;
        }

        private static void halve(long[] row) {
            long above = 0;
            for (int i = row.length - 1; i >= 0; i--) {
                long v = row[i];
                row[i] = v >>> 1 | above << (LIMB_BITS - 1);
                above = v & 1;
            }
        }

        /** A product of two limbs, a limb and a carry just fill the 64 bits of a long. */
        static void multiply(long[] to, long[] a, long[] b) {
            Arrays.fill(to, 0);
            for (int i = 0; i < a.length; i++) {
                long carry = 0;
                for (int j = 0; j < b.length && i + j < to.length; j++) {
                    long v = a[i] * b[j] + to[i + j] + carry;
                    to[i + j] = v & LIMB;
                    carry = v >>> LIMB_BITS;
                }
                if (i + b.length < to.length) {
                    to[i + b.length] = carry;
                }
            }
        }

        /** Divisors are above 0 and have at most 31 bits, so that no step reaches the sign. */
        static long remainder(long[] row, int divisor) {
            if (divisor <= 0) {
                return 0;
            }
            long rest = 0;
            for (int i = row.length - 1; i >= 0; i--) {
                rest = (rest << LIMB_BITS | row[i]) % divisor;
            }
            return rest;
        }
    }

    /**
     * Reckons by an odd modulus, in Montgomery's way: a number x is carried as x R,
     * R being one limb above the highest, so that no step needs a long division.
     */
    private static final class Modulus {
        private final int width;
        private final long[] modulus;
        private final long[] plainOne;
        private final long[] carriedOne;
        private final long[] carrier;
        private final long[] base;
        private final long[] result;
        private final long[] sum;
        private long negativeInverse;

        Modulus(int limbs) {
            width = Math.max(1, limbs);
            modulus = new long[width];
            plainOne = new long[width];
            carriedOne = new long[width];
            carrier = new long[width];
            base = new long[width];
            result = new long[width];
            sum = new long[width + 2];
        }

        /** The carried one is R, the carrier R R: both are reached by doubling alone. */
        void choose(long[] odd) {
            Rows.copy(modulus, odd);
            negativeInverse = -inverseOfLowLimb() & Rows.LIMB;
            Rows.putSmall(plainOne, 1);
            Rows.copy(carriedOne, plainOne);
            for (int i = 0; i < Rows.LIMB_BITS * width; i++) {
                twice(carriedOne, false);
            }
            Rows.copy(carrier, carriedOne);
            for (int i = 0; i < Rows.LIMB_BITS * width; i++) {
                twice(carrier, false);
            }
        }

        /** An odd number is its own inverse in 3 bits; every step doubles the bits that hold. */
        private long inverseOfLowLimb() {
            long low = modulus[0];
            long inverse = low;
            for (int bits = 3; bits < Rows.LIMB_BITS; bits *= 2) {
                inverse *= 2 - low * inverse;
            }
            return inverse;
        }

        /** What the number, of any length, leaves by the modulus. */
        void reduce(long[] to, long[] number) {
            if (to.length != width) {
                return;
            }
            Arrays.fill(to, 0);
            for (int i = Rows.bitCount(number) - 1; i >= 0; i--) {
                twice(to, Rows.bitAt(number, i));
            }
        }

        /** What the power leaves by the modulus; the number is below it. */
        void raise(long[] to, long[] number, long[] exponent) {
            multiplyCarried(base, number, carrier);
            Rows.copy(result, carriedOne);
            for (int i = Rows.bitCount(exponent) - 1; i >= 0; i--) {
                multiplyCarried(result, result, result);
                if (Rows.bitAt(exponent, i)) {
                    multiplyCarried(result, result, base);
                }
            }
            multiplyCarried(to, result, plainOne);
        }

        /** What a b leaves by the modulus; both are below it. */
        void times(long[] to, long[] a, long[] b) {
            multiplyCarried(base, a, carrier);
            multiplyCarried(to, base, b);
        }

        private void twice(long[] row, boolean plusOne) {
            long carry = plusOne ? 1 : 0;
            for (int i = 0; i < row.length; i++) {
                long v = row[i] << 1 | carry;
                row[i] = v & Rows.LIMB;
                carry = v >>> Rows.LIMB_BITS;
            }
            if (carry != 0 || Rows.order(row, modulus) >= 0) {
                Rows.subtract(row, row, modulus);
            }
        }

        /** What a b / R leaves by the modulus; "to" may be a or b, being written last. */
        private void multiplyCarried(long[] to, long[] a, long[] b) {
            if (to.length != width || a.length != width || b.length != width) {
                return;
            }
            Arrays.fill(sum, 0);
            for (int i = 0; i < width; i++) {
                addProduct(a, b[i]);
                dropLowLimb();
            }
            Rows.copy(to, sum);
            if (sum[width] != 0 || Rows.order(to, modulus) >= 0) {
                Rows.subtract(to, to, modulus);
            }
        }

        private void addProduct(long[] a, long limb) {
            long carry = 0;
            for (int j = 0; j < width && j < a.length; j++) {
                long v = a[j] * limb + sum[j] + carry;
                sum[j] = v & Rows.LIMB;
                carry = v >>> Rows.LIMB_BITS;
            }
            long v = sum[width] + carry;
            sum[width] = v & Rows.LIMB;
            sum[width + 1] = v >>> Rows.LIMB_BITS;
        }

        /** Adds the multiple of the modulus that makes the lowest limb 0, and shifts it out. */
        private void dropLowLimb() {
            long multiple = sum[0] * negativeInverse & Rows.LIMB;
            long carry = (multiple * modulus[0] + sum[0]) >>> Rows.LIMB_BITS;
            for (int j = 1; j < width; j++) {
                long v = multiple * modulus[j] + sum[j] + carry;
                sum[j - 1] = v & Rows.LIMB;
                carry = v >>> Rows.LIMB_BITS;
            }
            long v = sum[width] + carry;
            sum[width - 1] = v & Rows.LIMB;
            sum[width] = sum[width + 1] + (v >>> Rows.LIMB_BITS);
        }
    }

    /** SHA-256 (FIPS 180-4) of the first bytes of a row. */
    private static final class Sha256 {
        private static final int[] START = {
            0x6a09e667, 0xbb67ae85, 0x3c6ef372, 0xa54ff53a,
            0x510e527f, 0x9b05688c, 0x1f83d9ab, 0x5be0cd19
        };
        private static final int[] STEPS = {
            0x428a2f98, 0x71374491, 0xb5c0fbcf, 0xe9b5dba5, 0x3956c25b, 0x59f111f1, 0x923f82a4, 0xab1c5ed5,
            0xd807aa98, 0x12835b01, 0x243185be, 0x550c7dc3, 0x72be5d74, 0x80deb1fe, 0x9bdc06a7, 0xc19bf174,
            0xe49b69c1, 0xefbe4786, 0x0fc19dc6, 0x240ca1cc, 0x2de92c6f, 0x4a7484aa, 0x5cb0a9dc, 0x76f988da,
            0x983e5152, 0xa831c66d, 0xb00327c8, 0xbf597fc7, 0xc6e00bf3, 0xd5a79147, 0x06ca6351, 0x14292967,
            0x27b70a85, 0x2e1b2138, 0x4d2c6dfc, 0x53380d13, 0x650a7354, 0x766a0abb, 0x81c2c92e, 0x92722c85,
            0xa2bfe8a1, 0xa81a664b, 0xc24b8b70, 0xc76c51a3, 0xd192e819, 0xd6990624, 0xf40e3585, 0x106aa070,
            0x19a4c116, 0x1e376c08, 0x2748774c, 0x34b0bcb5, 0x391c0cb3, 0x4ed8aa4a, 0x5b9cca4f, 0x682e6ff3,
            0x748f82ee, 0x78a5636f, 0x84c87814, 0x8cc70208, 0x90befffa, 0xa4506ceb, 0xbef9a3f7, 0xc67178f2
        };
        private static final int BLOCK_BYTES = 64, BLOCK_WORDS = 16;

        /** What follows the bytes at the least: the byte 128 and eight bytes of length. */
        private static final int TAIL_BYTES = 9;

        private final int[] state = new int[8];
        private final int[] schedule = new int[64];

        void hashFirst(byte[] bytes, int count) {
            for (int i = 0; i < state.length && i < START.length; i++) {
                state[i] = START[i];
            }
            int blocks = (count + TAIL_BYTES + BLOCK_BYTES - 1) / BLOCK_BYTES;
            for (int block = 0; block < blocks; block++) {
                for (int word = 0; word < BLOCK_WORDS; word++) {
                    int place = BLOCK_BYTES * block + 4 * word;
                    schedule[word] = paddedWord(bytes, count, place, BLOCK_BYTES * blocks);
                }
                extendSchedule();
                mixBlock();
            }
        }

        int byteAt(int i) {
            int word = i >> 2;
            if (word < 0 || word >= state.length) {
                return 0;
            }
            return state[word] >>> (24 - 8 * (i & 3)) & 255;
        }

        /** The length in bits fits the last word here: no row is so long. */
        private static int paddedWord(byte[] bytes, int count, int place, int total) {
            if (place == total - 4) {
                return 8 * count;
            }
            int word = 0;
            for (int i = place; i < place + 4; i++) {
                int b = i == count ? 128 : 0;
                if (i >= 0 && i < count && i < bytes.length) {
                    b = bytes[i] & 255;
                }
                word = word << 8 | b;
            }
            return word;
        }

        private void extendSchedule() {
            for (int t = BLOCK_WORDS; t < schedule.length; t++) {
                int x = schedule[t - 15];
                int y = schedule[t - 2];
                int low = Integer.rotateRight(x, 7) ^ Integer.rotateRight(x, 18) ^ x >>> 3;
                int high = Integer.rotateRight(y, 17) ^ Integer.rotateRight(y, 19) ^ y >>> 10;
                schedule[t] = schedule[t - 16] + low + schedule[t - 7] + high;
            }
        }

        private void mixBlock() {
            int a = state[0], b = state[1], c = state[2], d = state[3];
            int e = state[4], f = state[5], g = state[6], h = state[7];
            for (int t = 0; t < schedule.length && t < STEPS.length; t++) {
                int high = Integer.rotateRight(e, 6) ^ Integer.rotateRight(e, 11) ^ Integer.rotateRight(e, 25);
                int low = Integer.rotateRight(a, 2) ^ Integer.rotateRight(a, 13) ^ Integer.rotateRight(a, 22);
                int choice = e & f ^ ~e & g;
                int majority = a & b ^ a & c ^ b & c;
                int first = h + high + choice + STEPS[t] + schedule[t];
                h = g;
                g = f;
                f = e;
                e = d + first;
                d = c;
                c = b;
                b = a;
                a = first + low + majority;
            }
            state[0] += a;
            state[1] += b;
            state[2] += c;
            state[3] += d;
            state[4] += e;
            state[5] += f;
            state[6] += g;
            state[7] += h;
        }
    }

    /** The seed and the bytes that are drawn from it, each once. */
    private static final class Draw {
        static final int MOST_WORDS = 16;

        /** The words' bytes, and behind them those of the number of the block. */
        private final byte[] bytes = new byte[4 * MOST_WORDS + 4];
        private final Sha256 block = new Sha256();
        private int wordCount;
        private int blocksMade;
        private int bytesLeft;

        void clear() {
            wordCount = 0;
            blocksMade = 0;
            bytesLeft = 0;
        }

        int wordCount() {
            return wordCount;
        }

        void addWord(int word) {
            if (wordCount < MOST_WORDS) {
                putWord(word);
                wordCount++;
            }
        }

        int nextByte() {
            if (bytesLeft == 0) {
                putWord(blocksMade);
                block.hashFirst(bytes, 4 * wordCount + 4);
                blocksMade++;
                bytesLeft = HASH_BYTES;
            }
            bytesLeft--;
            return block.byteAt(HASH_BYTES - 1 - bytesLeft);
        }

        private void putWord(int word) {
            for (int i = 0; i < 4; i++) {
                int place = 4 * wordCount + i;
                if (place >= 0 && place < bytes.length) {
                    bytes[place] = (byte) (word >>> (24 - 8 * i));
                }
            }
        }
    }

    /** The search for the two primes of a key. */
    private static final class Hunt {
        private static final int[] ODD_PRIMES = {
            3, 5, 7, 11, 13, 17, 19, 23, 29, 31, 37, 41, 43, 47, 53, 59, 61, 67, 71, 73, 79, 83, 89, 97,
            101, 103, 107, 109, 113, 127, 131, 137, 139, 149, 151, 157, 163, 167, 173, 179, 181, 191,
            193, 197, 199, 211, 223, 227, 229, 233, 239, 241, 251
        };
        private static final int[] BASES = {2, 3, 5, 7, 11, 13, 17, 19};

        private final Draw draw;
        private final int half;
        private final int rounds;
        private final Modulus byCandidate;
        private final long[] candidate;
        private final long[] candidateLessOne;
        private final long[] oddPart;
        private final long[] rest;
        private final long[] first;
        private final long[] second;
        private boolean begun;
        private int primesFound;
        private int examined;
        private int undivided;

        Hunt(Draw draw, int half, int limbs, int rounds) {
            this.draw = draw;
            this.half = half;
            this.rounds = rounds;
            int width = Math.max(1, limbs);
            byCandidate = new Modulus(width);
            candidate = new long[width];
            candidateLessOne = new long[width];
            oddPart = new long[width];
            rest = new long[width];
            first = new long[width];
            second = new long[width];
        }

        void clear() {
            begun = false;
            primesFound = 0;
            examined = 0;
            undivided = 0;
        }

        void begin() {
            begun = true;
        }

        boolean hasBegun() {
            return begun;
        }

        boolean hasBothPrimes() {
            return primesFound == 2;
        }

        long[] firstPrime() {
            return first;
        }

        long[] secondPrime() {
            return second;
        }

        int examinedCount() {
            return examined;
        }

        int undividedCount() {
            return undivided;
        }

        void examineNext() {
            drawCandidate();
            examined++;
            if (hasSmallDivisor()) {
                return;
            }
            undivided++;
            if (isGood()) {
                Rows.copy(primesFound == 0 ? first : second, candidate);
                primesFound++;
            }
        }

        private void drawCandidate() {
            for (int place = half - 1; place >= 0; place--) {
                int drawn = draw.nextByte();
                if (place == half - 1) {
                    drawn |= 192;
                }
                Rows.putByte(candidate, place, place == 0 ? drawn | 1 : drawn);
            }
        }

        private boolean hasSmallDivisor() {
            for (int prime : ODD_PRIMES) {
                if (Rows.remainder(candidate, prime) == 0) {
                    return true;
                }
            }
            return false;
        }

        private boolean isGood() {
            if (Rows.remainder(candidate, KeyRows.E) == 1) {
                return false;
            }
            if (primesFound > 0 && Rows.order(candidate, first) == 0) {
                return false;
            }
            Rows.copy(candidateLessOne, candidate);
            Rows.lessen(candidateLessOne, 1);
            Rows.copy(oddPart, candidateLessOne);
            int halvings = Rows.halveUntilOdd(oddPart);
            byCandidate.choose(candidate);
            for (int i = 0; i < rounds && i < BASES.length; i++) {
                if (!passes(BASES[i], halvings)) {
                    return false;
                }
            }
            return true;
        }

        private boolean passes(int base, int halvings) {
            Rows.putSmall(rest, base);
            byCandidate.raise(rest, rest, oddPart);
            if (Rows.isOne(rest) || Rows.order(rest, candidateLessOne) == 0) {
                return true;
            }
            for (int i = 1; i < halvings; i++) {
                byCandidate.times(rest, rest, rest);
                if (Rows.order(rest, candidateLessOne) == 0) {
                    return true;
                }
            }
            return false;
        }
    }

    /** The numbers of the key, and what is reckoned with them. */
    private static final class KeyRows {
        static final int E = 65537;
        private static final long[] E_ROW = {65537L};

        private final Modulus byN;
        private final Modulus byP;
        private final Modulus byQ;
        private final long[] n;
        private final long[] d;
        private final long[] p;
        private final long[] q;
        private final long[] dP;
        private final long[] dQ;
        private final long[] qI;
        private final long[] pLess;
        private final long[] qLess;
        private final long[] bothLess;
        private final long[] multiple;
        private final long[] restByP;
        private final long[] restByQ;
        private boolean made;

        KeyRows(int limbs) {
            int width = Math.max(1, limbs);
            byN = new Modulus(2 * width);
            byP = new Modulus(width);
            byQ = new Modulus(width);
            n = new long[2 * width];
            d = new long[2 * width];
            p = new long[width];
            q = new long[width];
            dP = new long[width];
            dQ = new long[width];
            qI = new long[width];
            pLess = new long[width];
            qLess = new long[width];
            bothLess = new long[2 * width];
            multiple = new long[2 * width + 1];
            restByP = new long[width];
            restByQ = new long[width];
        }

        void clear() {
            made = false;
        }

        boolean stand() {
            return made;
        }

        long[] part(int what) {
            switch (what) {
                case 0: return n;
                case 1: return d;
                case 2: return p;
                case 3: return q;
                case 4: return dP;
                case 5: return dQ;
                default: return qI;
            }
        }

        void make(long[] first, long[] second) {
            boolean inOrder = Rows.order(first, second) >= 0;
            Rows.copy(p, inOrder ? first : second);
            Rows.copy(q, inOrder ? second : first);
            Rows.multiply(n, p, q);
            byN.choose(n);
            byP.choose(p);
            byQ.choose(q);
            findPrivateNumbers();
            findInverseOfQ();
            made = true;
        }

        private void findPrivateNumbers() {
            Rows.copy(pLess, p);
            Rows.lessen(pLess, 1);
            Rows.copy(qLess, q);
            Rows.lessen(qLess, 1);
            Rows.multiply(bothLess, pLess, qLess);
            invertE(d, bothLess);
            invertE(dP, pLess);
            invertE(dQ, qLess);
        }

        /** By powering, as it is told: a p that passed need not be a prime. */
        private void findInverseOfQ() {
            Rows.copy(pLess, p);
            Rows.lessen(pLess, 2);
            byP.raise(qI, q, pLess);
        }

        /** The one number of by k + 1, k = 0 .. E - 1, that E divides, divided by E. */
        private void invertE(long[] to, long[] by) {
            long k = E - inverseByE(Rows.remainder(by, E));
            if (by.length >= multiple.length) {
                return;
            }
            long carry = 1;
            for (int i = 0; i < by.length; i++) {
                long v = by[i] * k + carry;
                multiple[i] = v & Rows.LIMB;
                carry = v >>> Rows.LIMB_BITS;
            }
            multiple[by.length] = carry;
            long rest = 0;
            for (int i = by.length; i >= 0; i--) {
                long v = rest << Rows.LIMB_BITS | multiple[i];
                if (i < to.length) {
                    to[i] = v / E;
                }
                rest = v % E;
            }
        }

        /** The power by E - 2, which is sixteen bits of 1: E is a prime. */
        private static long inverseByE(long number) {
            long power = 1;
            for (int bit = 0; bit < 16; bit++) {
                power = power * power % E * number % E;
            }
            return power;
        }

        boolean isBelowN(long[] number) {
            return Rows.order(number, n) < 0;
        }

        void raisePublic(long[] to, long[] number) {
            byN.raise(to, number, E_ROW);
        }

        void raisePrivate(long[] to, long[] number) {
            byN.raise(to, number, d);
        }

        void makeSignature(long[] to, long[] number) {
            byP.reduce(restByP, number);
            byP.raise(restByP, restByP, dP);
            byQ.reduce(restByQ, number);
            byQ.raise(restByQ, restByQ, dQ);
            if (Rows.subtract(restByP, restByP, restByQ)) {
                Rows.add(restByP, p);
            }
            byP.times(restByP, restByP, qI);
            Rows.multiply(to, restByP, q);
            Rows.add(to, restByQ);
        }
    }

    /** The bytes of the message, with their hash, made anew whenever they change. */
    private static final class Message {
        static final int MOST_BYTES = 300;

        private final byte[] bytes = new byte[MOST_BYTES];
        private final Sha256 sha = new Sha256();
        private int byteCount;

        Message() {
            makeHash();
        }

        int byteCount() {
            return byteCount;
        }

        void append(long w, int n) {
            for (int i = n - 1; i >= 0 && byteCount < bytes.length; i--) {
                bytes[byteCount] = (byte) (w >>> (8 * i));
                byteCount++;
            }
            makeHash();
        }

        void keepFirst(int n) {
            byteCount = n;
            makeHash();
        }

        int hashByte(int i) {
            return sha.byteAt(i);
        }

        private void makeHash() {
            sha.hashFirst(bytes, byteCount);
        }
    }
}
