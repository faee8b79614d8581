import java.math.BigInteger;

/** Promises 11 to 17 at their boundaries: each method holds one sentence of the document, told above it. */
final class SignatureBoundaryTest {
    private static final int BAD = -2, NO = -3;
    private static final int LEAST = Integer.MIN_VALUE, MOST = Integer.MAX_VALUE;
    private static final int[] HALVES = {31, 32, 33, 36, 39, 40};
    private static final BigInteger ZERO = BigInteger.ZERO, ONE = BigInteger.ONE;
    private static final BigInteger E = BigInteger.valueOf(65537);

    // Messages of two bytes, found by trying them from 0 on with the key of the seed 7 for a HALF
    // of 31; each test looks whether they are what they say.
    private static final int M1_ABOVE_M2 = 0, M1_BELOW_M2 = 5;
    private static final int HIGHEST_BYTE_0 = 257;

    // A word whose first candidate is good, for a HALF of 31.
    private static final int FIRST_IS_GOOD = 106;

    private final Checks checks = new Checks();

    public static void main(String[] args) {
        SignatureBoundaryTest test = new SignatureBoundaryTest();
        test.signs();
        test.verifies();
        test.powers();
        test.encodes();
        test.setsAndGets();
        test.digests();
        test.fiveHundredAndTwelveCalls();
        test.checks.end("SignatureBoundaryTest");
    }

    private void due(String what, long got, long want) {
        checks.due(what, got, want);
    }

    private void same(String what, BigInteger got, BigInteger want) {
        checks.holds(what + ": " + got + ", due is " + want, got.equals(want));
    }

    private void unchanged(String what, SignHouse x, String before) {
        checks.holds(what + " changes nothing", Houses.stateOf(x).equals(before));
    }

    private static SignHouse ofMessage(int message) {
        SignHouse x = Houses.withKey(31, 1, 7);
        x.feed(message, 2);
        return x;
    }

    private static BigInteger n(SignHouse x) {
        return Houses.keyNumber(x, 0);
    }

    /** The greatest number that the register can be. */
    private static BigInteger most(SignHouse x) {
        return ONE.shiftLeft(16 * x.count(0)).subtract(ONE);
    }

    /** No key at all; one prime alone; a key that is forgotten. */
    private static SignHouse[] withoutKey() {
        SignHouse none = new SignHouse(31, 1);
        SignHouse begun = Houses.seeded(31, 8, FIRST_IS_GOOD);
        begun.search(1);
        SignHouse forgotten = Houses.withKey(31, 1, 7);
        forgotten.sign();
        forgotten.forget();
        SignHouse[] all = {none, begun, forgotten};
        for (SignHouse x : all) {
            x.set(61, 2);
            x.feed(1, 1);
        }
        return all;
    }

    // ---- promise 11

    private void signs() {
        noSignWithoutKey();
        remaindersOfEitherOrder();
        emptyAndFullMessages();
        signaturesOfFewerBytes();
        signLeavesTheMessage();
    }

    /** "NO." */
    private void noSignWithoutKey() {
        for (SignHouse x : withoutKey()) {
            String before = Houses.stateOf(x);
            due("sign without a key", x.sign(), NO);
            unchanged("sign without a key", x, before);
        }
    }

    /** "h what qI (m1 - m2) leaves by p (0 or more)": m1 above m2, and below it. */
    private void remaindersOfEitherOrder() {
        int[] messages = {M1_ABOVE_M2, M1_BELOW_M2};
        for (int message : messages) {
            SignHouse x = ofMessage(message);
            BigInteger p = Houses.keyNumber(x, 2), q = Houses.keyNumber(x, 3);
            BigInteger m = Houses.encodedOf(x);
            BigInteger m1 = m.modPow(Houses.keyNumber(x, 4), p);
            BigInteger m2 = m.modPow(Houses.keyNumber(x, 5), q);
            due("m1 and m2", m1.compareTo(m2), message == M1_ABOVE_M2 ? 1 : -1);
            due("sign", x.sign(), 1);
            BigInteger h = Houses.keyNumber(x, 6).multiply(m1.subtract(m2)).mod(p);
            same("m2 + h q", Houses.registerOf(x), m2.add(h.multiply(q)));
        }
    }

    /** "THE MESSAGE has at most 300 bytes": the empty one and the full one are signed, with every SIZE. */
    private void emptyAndFullMessages() {
        for (int half : HALVES) {
            SignHouse x = Houses.withKey(half, 1, 7);
            due("sign an empty message", x.sign(), 1);
            same("its signature", Houses.registerOf(x), Houses.encodedOf(x).modPow(Houses.keyNumber(x, 1), n(x)));
            due("it is verified", x.verify(), 1);
            SignHouse y = Houses.withKey(half, 1, 7);
            Houses.feedMany(y, 300);
            due("the empty one's is not the full one's", y.verify(), 0);
            due("sign a full message", y.sign(), 1);
            same("its signature", Houses.registerOf(y), Houses.encodedOf(y).modPow(Houses.keyNumber(y, 1), n(y)));
            due("it is verified", y.verify(), 1);
        }
    }

    /** "THE REGISTER becomes m2 + h q", "a number of SIZE bytes": its highest byte may be 0. */
    private void signaturesOfFewerBytes() {
        SignHouse x = ofMessage(HIGHEST_BYTE_0);
        Houses.putRegister(x, most(x));
        due("sign", x.sign(), 1);
        due("the highest byte", x.get(0), 0);
        due("the next one", x.get(1), 58);
        due("it is verified", x.verify(), 1);
    }

    /** "THE REGISTER becomes": and nothing else, but for the count. */
    private void signLeavesTheMessage() {
        SignHouse x = ofMessage(1);
        int before = x.hash(0);
        due("sign", x.sign(), 1);
        BigInteger signature = Houses.registerOf(x);
        due("bytes", x.count(5), 2);
        due("hash", x.hash(0), before);
        due("signed", x.count(6), 1);
        due("verified", x.count(7), 0);
        due("sign once more", x.sign(), 1);
        same("the same signature", Houses.registerOf(x), signature);
    }

    // ---- promise 12

    private void verifies() {
        noVerifyWithoutKey();
        notBelowN();
        theSignatureAndItsNeighbours();
        signatureAndN();
        verifyLeavesTheRegister();
    }

    /** "NO." */
    private void noVerifyWithoutKey() {
        for (SignHouse x : withoutKey()) {
            String before = Houses.stateOf(x);
            due("verify without a key", x.verify(), NO);
            unchanged("verify without a key", x, before);
        }
    }

    /** "THE REGISTER is below n": 0, not NO, if it is not; and below n it is looked at. */
    private void notBelowN() {
        BigInteger n = n(ofMessage(1));
        BigInteger[] numbers = {ZERO, ONE, n.subtract(ONE), n, n.add(ONE), most(ofMessage(1))};
        for (BigInteger number : numbers) {
            SignHouse x = ofMessage(1);
            Houses.putRegister(x, number);
            due("verify " + number, x.verify(), 0);
            due("it was counted", x.count(7), 1);
            same("the register", Houses.registerOf(x), number);
        }
    }

    /** "what its power by e leaves by n is THE MESSAGE ENCODED": one more, or one less, is not. */
    private void theSignatureAndItsNeighbours() {
        for (int half : HALVES) {
            SignHouse x = Houses.withKey(half, 1, 7);
            x.sign();
            BigInteger signature = Houses.registerOf(x);
            due("the signature", x.verify(), 1);
            Houses.putRegister(x, signature.add(ONE));
            due("one more", x.verify(), 0);
            Houses.putRegister(x, signature.subtract(ONE));
            due("one less", x.verify(), 0);
            x.set(0, signature.shiftRight(16 * half - 8).intValue() ^ 1);
            due("another highest byte", x.verify(), 0);
        }
    }

    /** "THE REGISTER is below n": the signature and n leaves the same by n, and is not below it. */
    private void signatureAndN() {
        int[][] seeds = {{7}, {7, 8}, {1, 2, 3, 4, 5, 6, 7, 8, 9, 10, 11, 12, 13, 14, 15, 16}};
        for (int half : HALVES) {
            for (int[] seed : seeds) {
                signatureAndN(half, seed.length == 2 ? 8 : 1, seed, 2);
                signatureAndN(half, seed.length == 2 ? 1 : 8, seed, 300);
            }
            notBelowN(Houses.withKey(half, 1, seedWithRoomForN(half)), Houses.withKey(half, 1, seedWithRoomForN(half)));
        }
    }

    private void signatureAndN(int half, int rounds, int[] seed, int bytes) {
        int last = withRoomForN(half, rounds, seed, bytes);
        SignHouse[] both = new SignHouse[2];
        for (int i = 0; i < both.length; i++) {
            both[i] = Houses.withKey(half, rounds, seed);
            Houses.feedMany(both[i], bytes - 2);
            both[i].feed(last, 2);
        }
        notBelowN(both[0], both[1]);
    }

    /** The one signs, the other, of the same key and message, is asked. */
    private void notBelowN(SignHouse x, SignHouse y) {
        x.sign();
        BigInteger signature = Houses.registerOf(x);
        BigInteger sum = signature.add(n(x));
        checks.holds("there is room", sum.compareTo(most(x)) <= 0);
        Houses.putRegister(y, sum);
        due("the signature and n, nothing signed", y.verify(), 0);
        y.sign();
        Houses.putRegister(y, sum);
        due("the signature and n", y.verify(), 0);
        Houses.putRegister(y, signature);
        due("the signature", y.verify(), 1);
    }

    /** A seed by whose key the empty message's signature and n are together a number of SIZE bytes. */
    private static int seedWithRoomForN(int half) {
        BigInteger most = ONE.shiftLeft(16 * half).subtract(ONE);
        for (int word = 0; word < 50; word++) {
            Model model = Houses.modelWithKey(half, 1, word);
            model.sign();
            if (model.registerNumber().add(model.parts[0]).compareTo(most) <= 0) {
                return word;
            }
        }
        return 0;
    }

    /** The last two bytes of a message whose signature and n are together a number of SIZE bytes. */
    private static int withRoomForN(int half, int rounds, int[] seed, int bytes) {
        Model model = Houses.modelWithKey(half, rounds, seed);
        for (int i = 0; i < bytes - 2; i++) {
            model.feed(0x5A, 1);
        }
        BigInteger most = ONE.shiftLeft(16 * half).subtract(ONE);
        for (int last = 0; last < 200; last++) {
            model.feed(last, 2);
            model.sign();
            if (model.registerNumber().add(model.parts[0]).compareTo(most) <= 0) {
                return last;
            }
            model.cut(bytes - 2);
        }
        return 0;
    }

    /** "TO VERIFY" changes no register; "(whatever came of it)" it is counted. */
    private void verifyLeavesTheRegister() {
        SignHouse x = ofMessage(1);
        x.sign();
        BigInteger signature = Houses.registerOf(x);
        due("verify", x.verify(), 1);
        same("the register", Houses.registerOf(x), signature);
        x.feed(1, 1);
        due("another message", x.verify(), 0);
        same("the register", Houses.registerOf(x), signature);
        x.cut(0);
        due("no message", x.verify(), 0);
        due("verified", x.count(7), 3);
    }

    // ---- promise 13

    private void powers() {
        noPowerWithoutKey();
        noPowerOfWhatIsNotBelowN();
        powersOfTheLastBelowN();
        powersOfTheLeast();
        powersOfThePrimes();
        powersAreNotCounted();
    }

    /** "NO": "there is no KEY" */
    private void noPowerWithoutKey() {
        for (SignHouse x : withoutKey()) {
            String before = Houses.stateOf(x);
            due("power without a key", x.power(true), NO);
            due("power without a key", x.power(false), NO);
            unchanged("power without a key", x, before);
        }
    }

    /** "NO: also if it is not below n." */
    private void noPowerOfWhatIsNotBelowN() {
        for (int half : HALVES) {
            SignHouse x = Houses.withKey(half, 1, 7);
            BigInteger n = n(x);
            refusesPowers(x, n);
            SignHouse y = Houses.withKey(half, 1, 7);
            refusesPowers(y, n.add(ONE));
            SignHouse z = Houses.withKey(half, 1, 7);
            refusesPowers(z, most(z));
        }
    }

    private void refusesPowers(SignHouse x, BigInteger number) {
        Houses.putRegister(x, number);
        String before = Houses.stateOf(x);
        due("power of " + number, x.power(true), NO);
        due("power of " + number, x.power(false), NO);
        unchanged("power of " + number, x, before);
        same("the register", Houses.registerOf(x), number);
    }

    /** The same sentence: n - 1 is below n; e and d are odd, so that it stays. */
    private void powersOfTheLastBelowN() {
        for (int half : HALVES) {
            SignHouse x = Houses.withKey(half, 1, 7);
            BigInteger last = n(x).subtract(ONE);
            Houses.putRegister(x, last);
            due("power of n - 1", x.power(true), 1);
            same("by e", Houses.registerOf(x), last);
            due("power of n - 1", x.power(false), 1);
            same("by d", Houses.registerOf(x), last);
        }
    }

    /** "what its power by e (public), or by d, leaves by n": of 0, 1, 2. */
    private void powersOfTheLeast() {
        SignHouse x = Houses.withKey(31, 1, 7);
        due("power of 0", x.power(true), 1);
        due("power of 0", x.power(false), 1);
        same("0", Houses.registerOf(x), ZERO);
        x.set(61, 1);
        due("power of 1", x.power(true), 1);
        due("power of 1", x.power(false), 1);
        same("1", Houses.registerOf(x), ONE);
        SignHouse y = Houses.withKey(31, 1, 7);
        BigInteger n = n(y);
        y.set(61, 2);
        due("power of 2", y.power(true), 1);
        same("by e", Houses.registerOf(y), BigInteger.TWO.modPow(E, n));
        due("and back", y.power(false), 1);
        same("2", Houses.registerOf(y), BigInteger.TWO);
        due("by d first", y.power(false), 1);
        same("by d", Houses.registerOf(y), BigInteger.TWO.modPow(Houses.keyNumber(y, 1), n));
    }

    /** The same sentence, of numbers that share a prime with n. */
    private void powersOfThePrimes() {
        for (int part = 2; part <= 3; part++) {
            SignHouse x = Houses.withKey(31, 1, 7);
            BigInteger prime = Houses.keyNumber(x, part);
            Houses.putRegister(x, prime);
            due("power of a prime", x.power(true), 1);
            same("by e", Houses.registerOf(x), prime.modPow(E, n(x)));
            due("and back", x.power(false), 1);
            same("the prime", Houses.registerOf(x), prime);
        }
    }

    /** "THE REGISTER becomes": nothing is SIGNED or VERIFIED by it. */
    private void powersAreNotCounted() {
        SignHouse x = ofMessage(1);
        x.encode();
        due("by d", x.power(false), 1);
        due("signed", x.count(6), 0);
        due("verified", x.count(7), 0);
        due("it is a signature", x.verify(), 1);
        due("by e", x.power(true), 1);
        same("the message encoded", Houses.registerOf(x), Houses.encodedOf(x));
    }

    // ---- promise 14

    private void encodes() {
        encodesAlways();
        encodesEverySize();
    }

    /** "THE REGISTER becomes THE MESSAGE ENCODED: 1." No refusal is named. */
    private void encodesAlways() {
        for (SignHouse x : withoutKey()) {
            due("encode without a key", x.encode(), 1);
            same("encoded", Houses.registerOf(x), Houses.encodedOf(x));
        }
        SignHouse y = Houses.withKey(31, 1, 7);
        Houses.putRegister(y, most(y));
        due("encode with a key", y.encode(), 1);
        same("encoded", Houses.registerOf(y), Houses.encodedOf(y));
    }

    /** The same sentence, of every SIZE, of the empty and the full message. */
    private void encodesEverySize() {
        for (int half = 31; half <= 40; half++) {
            SignHouse x = new SignHouse(half, 1);
            due("encode an empty message", x.encode(), 1);
            same("encoded", Houses.registerOf(x), new BigInteger(1, new Model(half, 1).encodedBytes()));
            Houses.feedMany(x, 300);
            due("the register waits", x.get(2 * half - 1), 0x55);
            due("encode a full message", x.encode(), 1);
            same("encoded", Houses.registerOf(x), Houses.encodedOf(x));
        }
    }

    // ---- promises 15 and 16

    private void setsAndGets() {
        for (int half = 31; half <= 40; half++) {
            placesOfTheRegister(half);
            bytesFromNoneTo255(half);
        }
        bothNumbersWrong();
        oneByteAlone();
    }

    /** "Byte i of THE REGISTER. BAD.", "a number of SIZE bytes, numbered from 0 on, 0 being the highest" */
    private void placesOfTheRegister(int half) {
        SignHouse x = new SignHouse(half, 1);
        int size = 2 * half;
        String before = Houses.stateOf(x);
        int[] wrong = {LEAST, -1, size, size + 1, 256, MOST};
        for (int i : wrong) {
            due("get " + i + " of " + size, x.get(i), BAD);
            due("set " + i + " of " + size, x.set(i, 1), BAD);
        }
        unchanged("a wrong place", x, before);
        due("set the highest", x.set(0, 3), 0);
        due("set the lowest", x.set(size - 1, 4), 0);
        due("get the highest", x.get(0), 3);
        due("get the lowest", x.get(size - 1), 4);
        same("the number", Houses.registerOf(x), BigInteger.valueOf(3).shiftLeft(8 * (size - 1)).add(BigInteger.valueOf(4)));
    }

    /** "Byte i of THE REGISTER becomes v (0 .. 255): what it was. BAD." */
    private void bytesFromNoneTo255(int half) {
        SignHouse x = new SignHouse(half, 1);
        int last = 2 * half - 1;
        for (int i : new int[] {0, last}) {
            due("255", x.set(i, 255), 0);
            int[] wrong = {LEAST, -256, -255, -1, 256, 257, MOST};
            String before = Houses.stateOf(x);
            for (int v : wrong) {
                due("set " + i + " to " + v, x.set(i, v), BAD);
            }
            unchanged("a wrong byte", x, before);
            due("0", x.set(i, 0), 255);
            due("0 again", x.set(i, 0), 0);
            due("255 again", x.set(i, 255), 0);
            due("what it is", x.get(i), 255);
        }
    }

    /** "BAD -2 a number is not as told": either, and both. */
    private void bothNumbersWrong() {
        SignHouse x = new SignHouse(31, 1);
        due("both too low", x.set(-1, -1), BAD);
        due("both too high", x.set(62, 256), BAD);
        due("low and high", x.set(-1, 256), BAD);
        due("high and low", x.set(62, -1), BAD);
        same("the register", Houses.registerOf(x), ZERO);
    }

    /** "Byte i of THE REGISTER becomes v": and its neighbours stay. */
    private void oneByteAlone() {
        for (int i = 0; i < 62; i++) {
            SignHouse x = new SignHouse(31, 1);
            Houses.putRegister(x, most(x));
            due("set " + i, x.set(i, 0), 255);
            BigInteger hole = BigInteger.valueOf(255).shiftLeft(8 * (61 - i));
            same("the others", Houses.registerOf(x), most(x).subtract(hole));
        }
    }

    // ---- promise 17

    private void digests() {
        theFirstDigest();
        noKeyNoKeyBytes();
        everyByteOfTheKey();
        countsFromTwoToSeven();
        digestChangesNothing();
    }

    /** "h = 37; then h = 31 h + v for each v" with Java's wrap-around. */
    private static long more(long h, long v) {
        return 31 * h + v;
    }

    private static long digestOfRegister(SignHouse x) {
        long h = 37;
        int size = 2 * x.count(0);
        for (int i = 0; i < size; i++) {
            h = more(h, x.get(i));
        }
        return h;
    }

    private static long withCounts(SignHouse x, long start) {
        long h = start;
        for (int what = 2; what <= 7; what++) {
            h = more(h, x.count(what));
        }
        return h;
    }

    /** "h = 37": of a house in which all else is 0, whatever HALF's SIZE is. */
    private void theFirstDigest() {
        for (int half = 31; half <= 40; half++) {
            long h = 37;
            for (int i = 0; i < 2 * half + 6; i++) {
                h = more(h, 0);
            }
            due("the first digest of " + half, new SignHouse(half, 1).digest(), h);
        }
    }

    /** "if there is THE KEY": not before, not with p alone, not once it is forgotten. */
    private void noKeyNoKeyBytes() {
        for (SignHouse x : withoutKey()) {
            due("digest without a key", x.digest(), withCounts(x, digestOfRegister(x)));
        }
    }

    /** "bytes of n, d, p, q, dP, dQ, qI": the first and the last of them, of the least and the most HALF. */
    private void everyByteOfTheKey() {
        int[][] houses = {{31, 7}, {31, 41}, {31, 89}, {31, 235}, {31, 154}, {36, 7}, {40, 7}};
        for (int[] house : houses) {
            SignHouse x = Houses.withKey(house[0], 1, house[1]);
            long h = digestOfRegister(x);
            for (int part = 0; part < 7; part++) {
                for (int i = 0; i < (part < 2 ? 2 : 1) * house[0]; i++) {
                    h = more(h, x.key(part, i));
                }
            }
            due("digest with a key", x.digest(), withCounts(x, h));
        }
    }

    /** "count(2) to count(7)": neither HALF nor ROUNDS, and both ends. */
    private void countsFromTwoToSeven() {
        due("ROUNDS do not show", new SignHouse(31, 8).digest(), new SignHouse(31, 1).digest());
        SignHouse x = new SignHouse(31, 1);
        long before = x.digest();
        x.seed(0);
        due("a word shows", x.digest(), before + 31 * 31 * 31 * 31 * 31);
        SignHouse y = Houses.withKey(31, 1, 7);
        long then = y.digest();
        y.verify();
        due("a verify shows", y.digest(), then + 1);
        SignHouse z = Houses.withKey(31, 1, 7);
        z.sign();
        z.encode();
        SignHouse w = Houses.withKey(31, 1, 7);
        w.encode();
        due("a sign shows", z.digest(), w.digest() + 31);
    }

    /** A digest is asked for, and nothing is told to become another. */
    private void digestChangesNothing() {
        SignHouse x = ofMessage(1);
        x.sign();
        long digest = x.digest();
        due("once more", x.digest(), digest);
        due("verified still", x.verify(), 1);
        due("a verify more", x.digest(), digest + 1);
    }

    /** "An object is used for at most 512 calls": the 512th answers as the others do. */
    private void fiveHundredAndTwelveCalls() {
        SignHouse x = new SignHouse(40, 8);
        Model model = new Model(40, 8);
        int calls = 1;
        due("seed", x.seed(7), model.seed(7));
        int found = 0;
        while (found == 0) {
            found = model.search(60);
            calls++;
            due("search", x.search(60), found);
        }
        due("sign", x.sign(), model.sign());
        calls++;
        while (calls < 511) {
            due("verify", x.verify(), model.verify());
            calls++;
        }
        due("the 512th call", x.digest(), model.digest());
    }
}
