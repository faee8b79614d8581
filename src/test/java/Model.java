import java.math.BigInteger;
import java.security.MessageDigest;
import java.security.NoSuchAlgorithmException;
import java.util.ArrayList;
import java.util.Arrays;
import java.util.List;

/** The document once more, by the Java library's own big numbers and hash. */
final class Model {
    static final int BAD = -2, NO = -3, FULL = -4;
    static final BigInteger E = BigInteger.valueOf(65537);
    private static final int[] BASES = {2, 3, 5, 7, 11, 13, 17, 19};
    private static final int[] PREFIX = {
        48, 49, 48, 13, 6, 9, 96, 134, 72, 1, 101, 3, 4, 2, 1, 5, 0, 4, 32
    };

    final int half;
    final int size;
    final int rounds;
    final List<Integer> words = new ArrayList<>();
    byte[] message = {};
    byte[] register;
    BigInteger p;
    BigInteger q;
    /** n, d, p, q, dP, dQ, qI; null while there is no key. */
    BigInteger[] parts;
    private boolean begun;
    private int drawn;
    private int examined;
    private int undivided;
    private int signed;
    private int verified;

    Model(int half, int rounds) {
        this.half = half < 31 ? 31 : half > 40 ? 40 : half;
        this.rounds = rounds < 1 ? 1 : rounds > 8 ? 8 : rounds;
        size = 2 * this.half;
        register = new byte[size];
    }

    static byte[] sha256(byte[] bytes) {
        try {
            return MessageDigest.getInstance("SHA-256").digest(bytes);
        } catch (NoSuchAlgorithmException e) {
            throw new IllegalStateException(e);
        }
    }

    int seed(int word) {
        if (begun) {
            return NO;
        }
        if (words.size() == 16) {
            return FULL;
        }
        words.add(word);
        return words.size();
    }

    private static byte[] fourBytes(int v) {
        return new byte[] {(byte) (v >> 24), (byte) (v >> 16), (byte) (v >> 8), (byte) v};
    }

    private byte drawnByte(int place) {
        byte[] all = new byte[4 * words.size() + 4];
        for (int i = 0; i < words.size(); i++) {
            System.arraycopy(fourBytes(words.get(i)), 0, all, 4 * i, 4);
        }
        System.arraycopy(fourBytes(place / 32), 0, all, 4 * words.size(), 4);
        return sha256(all)[place % 32];
    }

    BigInteger nextCandidate() {
        byte[] bytes = new byte[half];
        for (int i = 0; i < half; i++) {
            bytes[i] = drawnByte(drawn++);
        }
        return new BigInteger(1, bytes).setBit(8 * half - 1).setBit(8 * half - 2).setBit(0);
    }

    static int leastOddDivisor(BigInteger c, int below) {
        for (int k = 3; k < below; k += 2) {
            if (c.mod(BigInteger.valueOf(k)).signum() == 0) {
                return k;
            }
        }
        return 0;
    }

    static boolean passes(BigInteger c, int rounds) {
        BigInteger less = c.subtract(BigInteger.ONE);
        int s = less.getLowestSetBit();
        BigInteger t = less.shiftRight(s);
        for (int r = 0; r < rounds; r++) {
            BigInteger a = BigInteger.valueOf(BASES[r]);
            boolean passed = a.modPow(t, c).equals(BigInteger.ONE);
            for (int i = 0; i < s && !passed; i++) {
                passed = a.modPow(t.shiftLeft(i), c).equals(less);
            }
            if (!passed) {
                return false;
            }
        }
        return true;
    }

    int search(int n) {
        if (n < 1 || n > 60) {
            return BAD;
        }
        if (words.isEmpty()) {
            return NO;
        }
        begun = true;
        for (int i = 0; i < n && parts == null; i++) {
            examine(nextCandidate());
        }
        return parts == null ? 0 : 1;
    }

    private void examine(BigInteger c) {
        examined++;
        if (leastOddDivisor(c, 256) != 0) {
            return;
        }
        undivided++;
        if (c.mod(E).equals(BigInteger.ONE) || c.equals(p) || !passes(c, rounds)) {
            return;
        }
        if (p == null) {
            p = c;
            return;
        }
        q = c;
        if (p.compareTo(q) < 0) {
            q = p;
            p = c;
        }
        BigInteger pLess = p.subtract(BigInteger.ONE);
        BigInteger qLess = q.subtract(BigInteger.ONE);
        parts = new BigInteger[] {
            p.multiply(q), E.modInverse(pLess.multiply(qLess)), p, q,
            E.modInverse(pLess), E.modInverse(qLess), q.modPow(p.subtract(BigInteger.TWO), p)
        };
    }

    int forget() {
        int answer = examined;
        words.clear();
        begun = false;
        drawn = 0;
        examined = 0;
        undivided = 0;
        p = null;
        q = null;
        parts = null;
        return answer;
    }

    private byte[] rowOf(BigInteger number, int length) {
        byte[] row = new byte[length];
        for (int i = 0; i < length; i++) {
            row[i] = number.shiftRight(8 * (length - 1 - i)).byteValue();
        }
        return row;
    }

    int key(int what, int i) {
        if (what < 0 || what > 6 || i < 0 || i >= (what < 2 ? size : half)) {
            return BAD;
        }
        return parts == null ? NO : rowOf(parts[what], what < 2 ? size : half)[i] & 255;
    }

    int count(int what) {
        int[] counts = {
            half, rounds, words.size(), examined, undivided, message.length, signed, verified
        };
        return what < 0 || what >= counts.length ? BAD : counts[what];
    }

    int feed(long w, int n) {
        if (n < 1 || n > 8) {
            return BAD;
        }
        if (message.length + n > 300) {
            return FULL;
        }
        int before = message.length;
        message = Arrays.copyOf(message, before + n);
        for (int i = 0; i < n; i++) {
            message[before + i] = BigInteger.valueOf(w).shiftRight(8 * (n - 1 - i)).byteValue();
        }
        return message.length;
    }

    int cut(int n) {
        if (n < 0 || n > message.length) {
            return BAD;
        }
        int went = message.length - n;
        message = Arrays.copyOf(message, n);
        return went;
    }

    int hash(int i) {
        return i < 0 || i > 31 ? BAD : sha256(message)[i] & 255;
    }

    byte[] encodedBytes() {
        byte[] row = new byte[size];
        Arrays.fill(row, (byte) 255);
        row[0] = 0;
        row[1] = 1;
        row[size - 52] = 0;
        for (int i = 0; i < PREFIX.length; i++) {
            row[size - 51 + i] = (byte) PREFIX[i];
        }
        System.arraycopy(sha256(message), 0, row, size - 32, 32);
        return row;
    }

    int encoded(int i) {
        return i < 0 || i >= size ? BAD : encodedBytes()[i] & 255;
    }

    int sign() {
        if (parts == null) {
            return NO;
        }
        BigInteger m = new BigInteger(1, encodedBytes());
        BigInteger m1 = m.modPow(parts[4], p);
        BigInteger m2 = m.modPow(parts[5], q);
        BigInteger h = parts[6].multiply(m1.subtract(m2)).mod(p);
        register = rowOf(m2.add(h.multiply(q)), size);
        signed++;
        return 1;
    }

    BigInteger registerNumber() {
        return new BigInteger(1, register);
    }

    int verify() {
        if (parts == null) {
            return NO;
        }
        verified++;
        BigInteger number = registerNumber();
        return number.compareTo(parts[0]) < 0
            && number.modPow(E, parts[0]).equals(new BigInteger(1, encodedBytes())) ? 1 : 0;
    }

    int power(boolean byPublic) {
        if (parts == null || registerNumber().compareTo(parts[0]) >= 0) {
            return NO;
        }
        register = rowOf(registerNumber().modPow(byPublic ? E : parts[1], parts[0]), size);
        return 1;
    }

    int encode() {
        register = encodedBytes();
        return 1;
    }

    int set(int i, int v) {
        if (i < 0 || i >= size || v < 0 || v > 255) {
            return BAD;
        }
        int before = register[i] & 255;
        register[i] = (byte) v;
        return before;
    }

    int get(int i) {
        return i < 0 || i >= size ? BAD : register[i] & 255;
    }

    long digest() {
        long h = 37;
        for (byte b : register) {
            h = 31 * h + (b & 255);
        }
        for (int what = 0; what < 7 && parts != null; what++) {
            for (byte b : rowOf(parts[what], what < 2 ? size : half)) {
                h = 31 * h + (b & 255);
            }
        }
        for (int what = 2; what <= 7; what++) {
            h = 31 * h + count(what);
        }
        return h;
    }
}
