import java.math.BigInteger;
import java.util.Arrays;

/** The promises one by one: ordinary inputs, the edges that the document names, wrong inputs. */
final class PromiseTest {
    private static final int BAD = -2, NO = -3, FULL = -4;
    private static final int LEAST = Integer.MIN_VALUE, MOST = Integer.MAX_VALUE;
    private static final BigInteger ONE = BigInteger.ONE;
    private static final BigInteger E = BigInteger.valueOf(65537);

    // The first candidate that each of these words draws for a HALF of 31 is of the told kind;
    // Houses.firstCandidate() lets the test look whether it really is.
    private static final int PRIME_THAT_LEAVES_1_BY_E = 1188237;
    private static final int DIVIDED_BY_251_AND_NONE_BELOW = 2177;
    private static final int DIVIDED_BY_257_AND_NONE_BELOW = 657;
    private static final int PRIME = 106;
    private static final int PRIME_ABOVE_A_MULTIPLE_OF_4096 = 53458;

    private final Checks checks = new Checks();

    public static void main(String[] args) {
        PromiseTest test = new PromiseTest();
        test.constants();
        test.newObject();
        test.seeds();
        test.searches();
        test.candidates();
        test.searchesInParts();
        test.searchesOfLongSeeds();
        test.forgets();
        test.keys();
        test.counts();
        test.feeds();
        test.cuts();
        test.hashes();
        test.encodes();
        test.signs();
        test.verifies();
        test.powers();
        test.setsAndGets();
        test.digests();
        test.manyKeys();
        test.checks.end("PromiseTest");
    }

    private void due(String what, long got, long want) {
        checks.due(what, got, want);
    }

    private void same(String what, BigInteger got, BigInteger want) {
        checks.holds(what + ": " + got + ", due is " + want, got.equals(want));
    }

    private void constants() {
        due("NONE", SignHouse.NONE, -1);
        due("BAD", SignHouse.BAD, -2);
        due("NO", SignHouse.NO, -3);
        due("FULL", SignHouse.FULL, -4);
    }

    private void newObject() {
        int[][] halves = {{LEAST, 31}, {0, 31}, {30, 31}, {31, 31}, {32, 32}, {39, 39}, {40, 40}, {41, 40}, {MOST, 40}};
        for (int[] half : halves) {
            due("HALF of " + half[0], new SignHouse(half[0], 4).count(0), half[1]);
        }
        int[][] rounds = {{LEAST, 1}, {-1, 1}, {0, 1}, {1, 1}, {2, 2}, {7, 7}, {8, 8}, {9, 8}, {MOST, 8}};
        for (int[] round : rounds) {
            due("ROUNDS of " + round[0], new SignHouse(35, round[0]).count(1), round[1]);
        }
        SignHouse x = new SignHouse(33, 3);
        for (int what = 2; what < 8; what++) {
            due("new: count " + what, x.count(what), 0);
        }
        for (int i = 0; i < 66; i++) {
            due("new: get " + i, x.get(i), 0);
        }
        due("new: key", x.key(0, 0), NO);
        due("new: search", x.search(1), NO);
    }

    private void seeds() {
        SignHouse x = new SignHouse(31, 1);
        for (int i = 1; i <= 16; i++) {
            due("seed " + i, x.seed(i * 0x10203040), i);
        }
        due("seed 17", x.seed(0), FULL);
        due("words after FULL", x.count(2), 16);
        due("search of 16 words", x.search(1), 0);
        due("seed, begun and full", x.seed(0), NO);

        SignHouse y = new SignHouse(31, 1);
        y.seed(5);
        due("a refused search", y.search(0), BAD);
        due("a refused search", y.search(61), BAD);
        due("seed behind refused searches", y.seed(LEAST), 2);
        y.search(1);
        long digest = y.digest();
        due("seed after the search began", y.seed(1), NO);
        due("words after it", y.count(2), 2);
        due("digest is as it was", y.digest(), digest);

        SignHouse z = Houses.withKey(31, 1, 7);
        due("seed when there is a key", z.seed(1), NO);
    }

    private void searches() {
        SignHouse x = new SignHouse(31, 1);
        due("search 1 without a seed", x.search(1), NO);
        due("search 0 without a seed", x.search(0), BAD);
        due("search 61 without a seed", x.search(61), BAD);
        x.seed(7);
        int[] wrong = {LEAST, -1, 0, 61, 62, MOST};
        for (int n : wrong) {
            due("search " + n, x.search(n), BAD);
        }
        due("nothing examined yet", x.count(3), 0);
        due("search 60", x.search(60), 0);
        due("examined", x.count(3), 60);
        due("key while only p may be there", x.key(2, 0), NO);
        due("search 60 again", x.search(60), 1);
        due("examined as far as the key", x.count(3), 105);
        due("search when there is the key", x.search(60), 1);
        due("search of a wrong number then", x.search(0), BAD);
        due("search of a wrong number then", x.search(61), BAD);
        due("nothing more was examined", x.count(3), 105);
    }

    private SignHouse afterOneCandidate(int word) {
        SignHouse x = new SignHouse(31, 8);
        x.seed(word);
        x.search(1);
        return x;
    }

    private void candidates() {
        BigInteger c = Houses.firstCandidate(PRIME_THAT_LEAVES_1_BY_E);
        checks.holds("a prime", c.isProbablePrime(40));
        same("that leaves 1 by e", c.mod(E), ONE);
        due("it counts as undivided", afterOneCandidate(PRIME_THAT_LEAVES_1_BY_E).count(4), 1);
        SignHouse x = Houses.withKey(31, 8, PRIME_THAT_LEAVES_1_BY_E);
        checks.holds("it is not p", !Houses.keyNumber(x, 2).equals(c));
        checks.holds("it is not q", !Houses.keyNumber(x, 3).equals(c));

        due("251", Model.leastOddDivisor(Houses.firstCandidate(DIVIDED_BY_251_AND_NONE_BELOW), 300), 251);
        due("251 divides", afterOneCandidate(DIVIDED_BY_251_AND_NONE_BELOW).count(4), 0);
        due("257", Model.leastOddDivisor(Houses.firstCandidate(DIVIDED_BY_257_AND_NONE_BELOW), 300), 257);
        due("257 is not below 256", afterOneCandidate(DIVIDED_BY_257_AND_NONE_BELOW).count(4), 1);
        checks.holds("257 p is not good", !isPartOfKey(DIVIDED_BY_257_AND_NONE_BELOW));

        checks.holds("a prime", Houses.firstCandidate(PRIME).isProbablePrime(40));
        due("a prime is undivided", afterOneCandidate(PRIME).count(4), 1);
        checks.holds("a prime is good", isPartOfKey(PRIME));

        BigInteger high = Houses.firstCandidate(PRIME_ABOVE_A_MULTIPLE_OF_4096);
        due("s", high.subtract(ONE).getLowestSetBit(), 12);
        checks.holds("it is good by its later squares", isPartOfKey(PRIME_ABOVE_A_MULTIPLE_OF_4096));
    }

    private boolean isPartOfKey(int word) {
        SignHouse x = Houses.withKey(31, 8, word);
        BigInteger c = Houses.firstCandidate(word);
        return Houses.keyNumber(x, 2).equals(c) || Houses.keyNumber(x, 3).equals(c);
    }

    /** The same candidates come, however the search is cut into calls. */
    private void searchesInParts() {
        for (int step = 1; step <= 60; step += 7) {
            SignHouse whole = Houses.withKey(37, 2, step);
            SignHouse parts = new SignHouse(37, 2);
            parts.seed(step);
            for (int i = 0; i < 500 && parts.search(step) == 0; i++) {
                due("not yet, key", parts.key(0, 0), NO);
            }
            due("by steps of " + step, parts.digest(), whole.digest());
        }
        SignHouse x = new SignHouse(31, 1);
        x.seed(PRIME);
        due("p is found", x.search(1), 0);
        for (int what = 0; what < 7; what++) {
            due("but no key", x.key(what, 0), NO);
        }
        due("nor can one sign", x.sign(), NO);
    }

    /** Every prime below 256 is, somewhere here, the only one of them that divides a candidate. */
    private void searchesOfLongSeeds() {
        for (int round = 0; round < 60; round++) {
            SignHouse x = new SignHouse(31 + round % 10, 1 + round % 8);
            Model model = new Model(31 + round % 10, 1 + round % 8);
            for (int i = 0; i <= round % 16; i++) {
                int word = (round * 16 + i + 1) * 0x9E3779B9;
                due("a word of many", x.seed(word), model.seed(word));
            }
            int found = 0;
            while (found == 0) {
                found = model.search(1 + round);
                due("search of a long seed", x.search(1 + round), found);
                due("examined", x.count(3), model.count(3));
                due("undivided", x.count(4), model.count(4));
            }
            due("its key", x.digest(), model.digest());
        }
    }

    private void forgets() {
        SignHouse x = new SignHouse(31, 1);
        due("forget nothing", x.forget(), 0);
        x.seed(7);
        due("forget a seed", x.forget(), 0);
        due("no words", x.count(2), 0);
        due("no search without them", x.search(5), NO);
        x.seed(7);
        Houses.findKey(x);
        Houses.feedText(x, "abc");
        x.sign();
        x.verify();
        BigInteger before = Houses.registerOf(x);
        due("forget a key", x.forget(), 105);
        int[] counts = {31, 1, 0, 0, 0, 3, 1, 1};
        for (int what = 0; what < counts.length; what++) {
            due("forgotten: count " + what, x.count(what), counts[what]);
        }
        same("the register stays", Houses.registerOf(x), before);
        due("the hash stays", x.hash(0), 0xba);
        due("no key", x.key(0, 0), NO);
        due("no sign", x.sign(), NO);
        due("no verify", x.verify(), NO);
        due("no power", x.power(true), NO);
        due("forget twice", x.forget(), 0);
        due("a new seed", x.seed(7), 1);
        x.search(60);
        due("the same search again", x.search(60), 1);
        due("the same key", x.count(3), 105);
        due("the same n", x.key(0, 61), 193);
        due("verified by the same key", x.verify(), 1);

        SignHouse y = new SignHouse(31, 1);
        y.seed(PRIME);
        y.search(1);
        due("forget a p", y.forget(), 1);
        y.seed(7);
        Houses.findKey(y);
        due("p is not left over", y.count(3), 105);
        due("nor bytes of the draw", y.key(2, 0), 242);
    }

    private void keys() {
        SignHouse none = new SignHouse(34, 1);
        for (int what = 0; what < 7; what++) {
            SignHouse x = Houses.withKey(34, 1, 11);
            int length = what < 2 ? 68 : 34;
            due("no key, " + what + " last", none.key(what, length - 1), NO);
            due("no key, " + what + " one more", none.key(what, length), BAD);
            due("key " + what + " one more", x.key(what, length), BAD);
            due("key " + what + " -1", x.key(what, -1), BAD);
            due("key " + what + " least", x.key(what, LEAST), BAD);
            due("key " + what + " most", x.key(what, MOST), BAD);
            for (int i = 0; i < length; i++) {
                checks.holds("key " + what + " " + i, x.key(what, i) >= 0 && x.key(what, i) < 256);
            }
        }
        int[] wrong = {LEAST, -1, 7, 8, MOST};
        for (int what : wrong) {
            due("key " + what, Houses.withKey(34, 1, 11).key(what, 0), BAD);
            due("no key, " + what, none.key(what, 0), BAD);
        }
        keyHolds(Houses.withKey(34, 1, 11));
    }

    private void keyHolds(SignHouse x) {
        BigInteger n = Houses.keyNumber(x, 0), d = Houses.keyNumber(x, 1), p = Houses.keyNumber(x, 2), q = Houses.keyNumber(x, 3);
        BigInteger pLess = p.subtract(ONE), qLess = q.subtract(ONE);
        checks.holds("p above q", p.compareTo(q) > 0);
        checks.holds("primes", p.isProbablePrime(40) && q.isProbablePrime(40));
        due("two highest bits of p", p.shiftRight(8 * x.count(0) - 2).intValue(), 3);
        due("two highest bits of q", q.shiftRight(8 * x.count(0) - 2).intValue(), 3);
        same("n", n, p.multiply(q));
        same("d", d, E.modInverse(pLess.multiply(qLess)));
        same("dP", Houses.keyNumber(x, 4), E.modInverse(pLess));
        same("dQ", Houses.keyNumber(x, 5), E.modInverse(qLess));
        same("qI", Houses.keyNumber(x, 6), q.modInverse(p));
    }

    private void counts() {
        SignHouse x = Houses.withKey(40, 5, 3);
        int[] wrong = {LEAST, -1, 8, 9, MOST};
        for (int what : wrong) {
            due("count " + what, x.count(what), BAD);
        }
        x.feed(1, 5);
        x.sign();
        x.sign();
        x.verify();
        x.set(79, x.get(79) ^ 1);
        due("a wrong signature", x.verify(), 0);
        Houses.putRegister(x, Houses.keyNumber(x, 0));
        due("one that is not below n", x.verify(), 0);
        int examined = x.count(3);
        checks.holds("undivided among the examined", x.count(4) >= 2 && x.count(4) < examined);
        int[] want = {40, 5, 1, examined, x.count(4), 5, 2, 3};
        for (int what = 0; what < want.length; what++) {
            due("count " + what, x.count(what), want[what]);
        }
        x.forget();
        x.sign();
        x.verify();
        due("refused ones are not counted", x.count(6), 2);
        due("refused ones are not counted", x.count(7), 3);
    }

    private void feeds() {
        SignHouse x = new SignHouse(31, 1);
        int[] wrong = {LEAST, -1, 0, 9, 10, MOST};
        for (int n : wrong) {
            due("feed of " + n, x.feed(1, n), BAD);
        }
        due("the highest first", x.feed(0x6162636465666768L, 8), 8);
        SignHouse y = new SignHouse(31, 1);
        Houses.feedText(y, "abcdefgh");
        sameHash("8 at once as one by one", x, y);
        x.feed(0xFFFFFF6162L, 2);
        y.feed('a', 1);
        y.feed(-1L << 8 | 'b', 1);
        sameHash("the lowest of w alone", x, y);

        SignHouse z = new SignHouse(31, 1);
        for (int i = 1; i <= 37; i++) {
            due("fed", z.feed(i, 8), 8 * i);
        }
        due("up to 299", z.feed(1, 3), 299);
        due("above 300", z.feed(1, 2), FULL);
        due("above 300, by 8", z.feed(1, 8), FULL);
        due("wrong goes before full", z.feed(1, 9), BAD);
        due("still 299", z.count(5), 299);
        due("300", z.feed(1, 1), 300);
        due("301", z.feed(1, 1), FULL);
        due("still 300", z.count(5), 300);
    }

    private void sameHash(String what, SignHouse x, SignHouse y) {
        for (int i = 0; i < 32; i++) {
            due(what + " " + i, x.hash(i), y.hash(i));
        }
    }

    private void cuts() {
        SignHouse x = new SignHouse(31, 1);
        due("cut 0 of nothing", x.cut(0), 0);
        due("cut 1 of nothing", x.cut(1), BAD);
        Houses.feedText(x, "abcdef");
        int[] wrong = {LEAST, -1, 7, MOST};
        for (int n : wrong) {
            due("cut " + n, x.cut(n), BAD);
        }
        due("nothing went", x.count(5), 6);
        due("cut all of it", x.cut(6), 0);
        due("cut 3", x.cut(3), 3);
        due("3 are left", x.count(5), 3);
        due("abc", x.hash(0), 0xba);
        due("abc", x.hash(31), 0xad);
        due("cut 4 of 3", x.cut(4), BAD);
        due("cut 0", x.cut(0), 3);
        due("an empty message", x.hash(0), 0xe3);
        Houses.feedText(x, "abc");
        due("abc again", x.hash(31), 0xad);
    }

    private void hashes() {
        SignHouse x = new SignHouse(31, 1);
        int[] wrong = {LEAST, -1, 32, 33, MOST};
        for (int i : wrong) {
            due("hash " + i, x.hash(i), BAD);
        }
        byte[] fed = new byte[300];
        for (int i = 0; i < 300; i++) {
            fed[i] = (byte) (i * 151);
        }
        for (int length = 0; length <= 300; length++) {
            SignHouse y = new SignHouse(31, 1);
            for (int i = 0; i < length; i++) {
                y.feed(fed[i], 1);
            }
            byte[] want = Model.sha256(Arrays.copyOf(fed, length));
            for (int i = 0; i < 32; i++) {
                due("hash of " + length + " bytes, " + i, y.hash(i), want[i] & 255);
            }
        }
    }

    private void encodes() {
        for (int half = 31; half <= 40; half++) {
            encodesText(half, "");
            encodesText(half, "abc");
            SignHouse x = new SignHouse(half, 1);
            int size = 2 * half;
            int[] wrong = {LEAST, -1, size, size + 1, MOST};
            for (int i : wrong) {
                due("encoded " + i + " of " + size, x.encoded(i), BAD);
            }
            x.encode();
            Houses.feedText(x, "abc");
            BigInteger before = Houses.registerOf(x);
            x.encoded(5);
            same("encoded alone leaves the register", Houses.registerOf(x), before);
        }
        SignHouse x = new SignHouse(31, 1);
        int[] start = {0, 1, 255, 255, 255, 255, 255, 255, 255, 255, 0, 48, 49, 48, 13, 6, 9, 96, 134, 72, 1, 101, 3, 4, 2, 1, 5, 0, 4, 32, 0xe3};
        for (int i = 0; i < start.length; i++) {
            due("encoded " + i, x.encoded(i), start[i]);
        }
    }

    private void encodesText(int half, String text) {
        SignHouse x = new SignHouse(half, 1);
        Model model = new Model(half, 1);
        Houses.feedText(x, text);
        for (char c : text.toCharArray()) {
            model.feed(c, 1);
        }
        due("encode", x.encode(), 1);
        byte[] want = model.encodedBytes();
        for (int i = 0; i < want.length; i++) {
            due("encoded " + i + " of " + want.length, x.encoded(i), want[i] & 255);
            due("register " + i + " of " + want.length, x.get(i), want[i] & 255);
        }
    }

    private void signs() {
        SignHouse x = new SignHouse(36, 2);
        due("sign without a key", x.sign(), NO);
        due("register as it was", x.get(71), 0);
        for (int i = 0; i < 30; i++) {
            SignHouse y = Houses.withKey(36, 2, 99);
            y.feed(i * 0x123456789L, 7);
            due("sign", y.sign(), 1);
            BigInteger n = Houses.keyNumber(y, 0);
            BigInteger d = Houses.keyNumber(y, 1);
            same("signature", Houses.registerOf(y), Houses.encodedOf(y).modPow(d, n));
            due("it is verified", y.verify(), 1);
        }
        SignHouse z = Houses.withKey(36, 2, 99);
        for (int i = 0; i < 30; i++) {
            due("sign", z.sign(), 1);
        }
        due("signed", z.count(6), 30);
    }

    private void verifies() {
        SignHouse x = new SignHouse(31, 1);
        due("verify without a key", x.verify(), NO);
        x.seed(7);
        Houses.findKey(x);
        Houses.feedText(x, "abc");
        due("nothing signed", x.verify(), 0);
        x.sign();
        BigInteger signature = Houses.registerOf(x);
        due("signed", x.verify(), 1);
        same("verify leaves the register", Houses.registerOf(x), signature);
        x.feed('d', 1);
        due("another message", x.verify(), 0);
        x.cut(3);
        due("the first one", x.verify(), 1);
        x.set(61, x.get(61) ^ 128);
        due("another register", x.verify(), 0);
        SignHouse low = withLowSignature();
        due("a low signature", low.verify(), 1);
        Houses.putRegister(low, Houses.registerOf(low).add(Houses.keyNumber(low, 0)));
        due("with n added", low.verify(), 0);
        x.forget();
        due("forgotten", x.verify(), NO);
    }

    /** Signs messages until there is room for n above the signature in the register. */
    private static SignHouse withLowSignature() {
        SignHouse x = Houses.withKey(31, 1, 7);
        x.sign();
        while (x.count(5) < 300 && Houses.registerOf(x).add(Houses.keyNumber(x, 0)).bitLength() > 496) {
            x.feed(1, 1);
            x.sign();
        }
        return x;
    }

    private void powers() {
        SignHouse x = new SignHouse(31, 1);
        due("power without a key", x.power(true), NO);
        due("power without a key", x.power(false), NO);
        x.seed(7);
        Houses.findKey(x);
        BigInteger n = Houses.keyNumber(x, 0);
        BigInteger d = Houses.keyNumber(x, 1);
        BigInteger[] numbers = {
            BigInteger.ZERO, ONE, BigInteger.TWO, Houses.keyNumber(x, 2), Houses.keyNumber(x, 3),
            n.subtract(ONE), n.subtract(BigInteger.TWO), ONE.shiftLeft(495), ONE.shiftLeft(495).subtract(ONE),
            ONE.shiftLeft(256).subtract(ONE).shiftLeft(128)
        };
        for (BigInteger number : numbers) {
            powersOf(number, n, d);
        }
        BigInteger[] tooHigh = {n, n.add(ONE), ONE.shiftLeft(496).subtract(ONE)};
        for (BigInteger number : tooHigh) {
            SignHouse y = Houses.withKey(31, 1, 7);
            Houses.putRegister(y, number);
            due("power of too much", y.power(true), NO);
            due("power of too much", y.power(false), NO);
            same("it stays", Houses.registerOf(y), number);
        }
    }

    private void powersOf(BigInteger number, BigInteger n, BigInteger d) {
        SignHouse x = Houses.withKey(31, 1, 7);
        Houses.putRegister(x, number);
        due("power", x.power(true), 1);
        same("by e", Houses.registerOf(x), number.modPow(E, n));
        Houses.putRegister(x, number);
        due("power", x.power(false), 1);
        same("by d", Houses.registerOf(x), number.modPow(d, n));
        due("power", x.power(true), 1);
        same("by d and e", Houses.registerOf(x), number);
        due("powers are no signatures", x.count(6) + x.count(7), 0);
    }

    private void setsAndGets() {
        for (int half = 31; half <= 40; half += 3) {
            SignHouse x = new SignHouse(half, 1);
            int size = 2 * half;
            for (int i = 0; i < size; i++) {
                due("set " + i, x.set(i, 255 - i), 0);
                due("get " + i, x.get(i), 255 - i);
            }
            for (int i = 0; i < size; i++) {
                due("get again " + i, x.get(i), 255 - i);
                due("set again " + i, x.set(i, i), 255 - i);
            }
            int[] wrongPlaces = {LEAST, -1, size, size + 1, MOST};
            for (int i : wrongPlaces) {
                due("get " + i, x.get(i), BAD);
                due("set " + i, x.set(i, 1), BAD);
            }
            int[] wrongBytes = {LEAST, -1, 256, MOST};
            for (int v : wrongBytes) {
                due("set to " + v, x.set(0, v), BAD);
            }
            due("the highest stays", x.get(0), 0);
            due("set 255", x.set(size - 1, 255), size - 1);
            due("set 0", x.set(size - 1, 0), 255);
            due("was 0", x.set(size - 1, 0), 0);
        }
    }

    private void digests() {
        SignHouse x = new SignHouse(31, 8);
        long h = 37;
        for (int i = 0; i < 62 + 6; i++) {
            h *= 31;
        }
        due("digest of a new object", x.digest(), h);
        x.set(61, 1);
        long power = 1;
        for (int i = 0; i < 6; i++) {
            power *= 31;
        }
        due("the lowest byte", x.digest(), h + power);
        x.seed(7);
        due("count 2", x.digest(), h + power + 31 * 31 * 31 * 31 * 31);
        x.feed(9, 4);
        due("count 5", x.digest(), h + power + 31 * 31 * 31 * 31 * 31 + 4 * 31 * 31);

        Model model = new Model(33, 2);
        SignHouse y = new SignHouse(33, 2);
        model.seed(12);
        y.seed(12);
        due("p or nothing yet", model.search(1) - y.search(1), 0);
        due("digest without a key", y.digest(), model.digest());
        while (model.search(60) == 0) {
            y.search(60);
        }
        y.search(60);
        due("digest with a key", y.digest(), model.digest());
        model.sign();
        y.sign();
        model.verify();
        y.verify();
        due("digest of a signature", y.digest(), model.digest());
        due("digest changes nothing", y.digest(), model.digest());
    }

    private void manyKeys() {
        for (int half = 31; half <= 40; half++) {
            for (int word = 0; word < 12; word++) {
                keyHolds(Houses.withKey(half, 1 + word % 8, word * 0x9E3779B9));
                SignHouse x = Houses.withKey(half, 1 + word % 8, word * 0x9E3779B9);
                x.feed(word, 4);
                x.sign();
                same("signature", Houses.registerOf(x), Houses.encodedOf(x).modPow(Houses.keyNumber(x, 1), Houses.keyNumber(x, 0)));
                due("verified", x.verify(), 1);
            }
        }
    }
}
