import java.math.BigInteger;

/** Promises 1 to 6 at their boundaries: each method holds one sentence of the document, told above it. */
final class KeyBoundaryTest {
    private static final int BAD = -2, NO = -3, FULL = -4;
    private static final int LEAST = Integer.MIN_VALUE, MOST = Integer.MAX_VALUE;
    private static final int KEY_PARTS = 7;

    // Words found by trying them from 0 on, for a HALF of 31; each test looks whether they are what they say.
    private static final int FIRST_IS_GOOD = 106;
    private static final int FIRST_TWO_ARE_GOOD_AND_FALL = 2068;
    private static final int FIRST_TWO_ARE_GOOD_AND_RISE = 8368;
    private static final int KEY_AT_59 = 157, KEY_AT_60 = 1188, KEY_AT_61 = 8;
    private static final int GOOD_OF_BYTES_63_TO_122 = 750;
    private static final int GOOD_OF_BYTES_249_TO_127 = 240;
    private static final int DIVIDED_BY_3_ALONE = 35, DIVIDED_BY_251_ALONE = 2177, DIVIDED_BY_257 = 657;

    /** HALF, ROUNDS, a seed, which of its candidates is a prime that leaves 1 by 65537, how many are good before it. */
    private record LeavesOne(int half, int rounds, int[] seed, int number, int goodBefore) {
    }

    private static final LeavesOne[] LEAVE_ONE = {
        new LeavesOne(31, 8, new int[] {9773}, 12, 0), new LeavesOne(31, 8, new int[] {324888}, 22, 1),
        new LeavesOne(40, 1, new int[] {342391, -342391}, 152, 0), new LeavesOne(40, 1, new int[] {335317, -335317}, 104, 1)
    };

    /** By what key() numbers: words whose d, dP, dQ, qI begins with a byte of 0; the others can't. */
    private static final int[] HIGHEST_BYTE_0 = {-1, 41, -1, -1, 89, 235, 154};

    // For a HALF of 40: 644 candidates, so 805 blocks.
    private static final int MANY_BLOCKS = 2;

    private final Checks checks = new Checks();

    public static void main(String[] args) {
        KeyBoundaryTest test = new KeyBoundaryTest();
        test.newObjects();
        test.seeds();
        test.draws();
        test.searches();
        test.primes();
        test.forgets();
        test.keys();
        test.counts();
        test.checks.end("KeyBoundaryTest");
    }

    private void due(String what, long got, long want) {
        checks.due(what, got, want);
    }

    private void unchanged(String what, SignHouse x, String before) {
        checks.holds(what + " changes nothing", Houses.stateOf(x).equals(before));
    }

    private void sameKey(String what, SignHouse x, Model model) {
        due(what + ": the digest", x.digest(), model.digest());
        for (int part = 0; part < KEY_PARTS; part++) {
            int last = (part < 2 ? model.size : model.half) - 1;
            due(what + ": key " + part + " first", x.key(part, 0), model.key(part, 0));
            due(what + ": key " + part + " last", x.key(part, last), model.key(part, last));
        }
    }

    // ---- promise 1

    private void newObjects() {
        halfIsTheNearest();
        roundsAreTheNearest();
        theNearestIsUsed();
        noSeedAtFirst();
        noKeyAtFirst();
        emptyMessageAtFirst();
        registerIsZeroAtFirst();
        housesShareNothing();
    }

    /** "HALF 31 .. 40 .. (of what is less, or more, the nearest)" */
    private void halfIsTheNearest() {
        int[][] halves = {{LEAST, 31}, {-31, 31}, {0, 31}, {30, 31}, {31, 31}, {32, 32}, {39, 39}, {40, 40}, {41, 40}, {62, 40}, {MOST, 40}};
        for (int[] pair : halves) {
            SignHouse x = new SignHouse(pair[0], 4);
            int half = pair[1];
            due("HALF of " + pair[0], x.count(0), half);
            due("ROUNDS beside it", x.count(1), 4);
            due("the last byte of the register", x.get(2 * half - 1), 0);
            due("one more", x.get(2 * half), BAD);
            due("the last byte encoded", x.encoded(2 * half - 1), 0x55);
            due("one more", x.encoded(2 * half), BAD);
            due("the last byte of p", x.key(2, half - 1), NO);
            due("one more", x.key(2, half), BAD);
        }
    }

    /** "ROUNDS 1 .. 8 (of what is less, or more, the nearest)" */
    private void roundsAreTheNearest() {
        int[][] rounds = {{LEAST, 1}, {-8, 1}, {-1, 1}, {0, 1}, {1, 1}, {2, 2}, {7, 7}, {8, 8}, {9, 8}, {16, 8}, {MOST, 8}};
        for (int[] pair : rounds) {
            SignHouse x = new SignHouse(35, pair[0]);
            due("ROUNDS of " + pair[0], x.count(1), pair[1]);
            due("HALF beside it", x.count(0), 35);
        }
        SignHouse low = new SignHouse(30, 0);
        due("both too low: HALF", low.count(0), 31);
        due("both too low: ROUNDS", low.count(1), 1);
        SignHouse high = new SignHouse(41, 9);
        due("both too high: HALF", high.count(0), 40);
        due("both too high: ROUNDS", high.count(1), 8);
        SignHouse mixed = new SignHouse(MOST, LEAST);
        due("high and low: HALF", mixed.count(0), 40);
        due("high and low: ROUNDS", mixed.count(1), 1);
    }

    /** The same sentence: a house of too little or too much searches as the nearest does. */
    private void theNearestIsUsed() {
        int[][] pairs = {{LEAST, LEAST, 31, 1}, {30, 0, 31, 1}, {41, 9, 40, 8}, {MOST, MOST, 40, 8}};
        for (int[] pair : pairs) {
            SignHouse x = Houses.withKey(pair[0], pair[1], 7);
            sameKey("of " + pair[0] + ", " + pair[1], x, Houses.modelWithKey(pair[2], pair[3], 7));
        }
    }

    /** "no SEED" */
    private void noSeedAtFirst() {
        SignHouse x = new SignHouse(31, 1);
        due("words", x.count(2), 0);
        due("search", x.search(1), NO);
        due("forget", x.forget(), 0);
        due("the first word", x.seed(0), 1);
    }

    /** "no KEY" */
    private void noKeyAtFirst() {
        SignHouse x = new SignHouse(31, 1);
        for (int part = 0; part < KEY_PARTS; part++) {
            due("key " + part, x.key(part, 0), NO);
        }
        due("sign", x.sign(), NO);
        due("verify", x.verify(), NO);
        due("power", x.power(true), NO);
        due("power", x.power(false), NO);
        for (int what = 3; what < 8; what++) {
            due("count " + what, x.count(what), 0);
        }
    }

    /** "an empty MESSAGE" */
    private void emptyMessageAtFirst() {
        SignHouse x = new SignHouse(31, 1);
        due("bytes", x.count(5), 0);
        due("cut 0", x.cut(0), 0);
        due("cut 1", x.cut(1), BAD);
        due("its hash begins", x.hash(0), 0xe3);
        due("its hash ends", x.hash(31), 0x55);
        due("the first byte fed", x.feed(1, 1), 1);
    }

    /** "THE REGISTER 0" */
    private void registerIsZeroAtFirst() {
        for (int half = 31; half <= 40; half++) {
            SignHouse x = new SignHouse(half, 1);
            for (int i = 0; i < 2 * half; i++) {
                due("get " + i + " of " + half, x.get(i), 0);
            }
        }
    }

    /** "A new object": what one house is told another does not know. */
    private void housesShareNothing() {
        SignHouse x = new SignHouse(31, 1);
        String before = Houses.stateOf(x);
        SignHouse y = Houses.withKey(31, 1, 7);
        Houses.feedMany(y, 9);
        y.sign();
        y.verify();
        unchanged("another house", x, before);
        String then = Houses.stateOf(y);
        x.seed(8);
        x.search(60);
        x.feed(1, 1);
        x.encode();
        unchanged("another house", y, then);
        due("y signs still", y.sign(), 1);
        due("y verifies still", y.verify(), 1);
    }

    // ---- promise 2

    private void seeds() {
        everyWordIsCounted();
        sixteenWordsAreFull();
        noWordOnceTheSearchHasBegun();
        refusedSearchesBeginNothing();
        begunGoesBeforeFull();
        everyIntIsAWord();
        wordsOfZeroAreWords();
    }

    /** "A WORD more of THE SEED: how many." */
    private void everyWordIsCounted() {
        SignHouse x = new SignHouse(31, 1);
        for (int i = 1; i <= 16; i++) {
            due("the same word again", x.seed(5), i);
            due("words", x.count(2), i);
        }
    }

    /** "FULL: 16." */
    private void sixteenWordsAreFull() {
        SignHouse x = new SignHouse(31, 1);
        for (int i = 1; i <= 15; i++) {
            x.seed(i);
        }
        due("the sixteenth", x.seed(16), 16);
        String before = Houses.stateOf(x);
        due("the seventeenth", x.seed(17), FULL);
        due("and once more", x.seed(16), FULL);
        unchanged("FULL", x, before);
        Model model = new Model(31, 1);
        for (int i = 1; i <= 16; i++) {
            model.seed(i);
        }
        Houses.findKey(x);
        while (model.search(60) == 0) {
            due("not yet", model.key(0, 0), NO);
        }
        sameKey("sixteen words", x, model);
        x.forget();
        due("there is room again", x.seed(1), 1);
    }

    /** "NO: THE SEARCH has begun" */
    private void noWordOnceTheSearchHasBegun() {
        SignHouse begun = Houses.seeded(31, 1, 7);
        begun.search(1);
        refusesAWord("begun", begun);
        SignHouse withP = Houses.seeded(31, 8, FIRST_IS_GOOD);
        withP.search(1);
        refusesAWord("p is found", withP);
        SignHouse withKey = Houses.withKey(31, 1, 7);
        refusesAWord("there is the key", withKey);
        withKey.forget();
        due("forgotten", withKey.seed(3), 1);
    }

    private void refusesAWord(String what, SignHouse x) {
        String before = Houses.stateOf(x);
        due(what + ": seed", x.seed(1), NO);
        unchanged(what + ": seed", x, before);
    }

    /** "Refused, changing nothing": such a search has not begun, and words may come. */
    private void refusedSearchesBeginNothing() {
        SignHouse x = new SignHouse(31, 1);
        due("search without a word", x.search(1), NO);
        due("a word", x.seed(1), 1);
        due("search 0", x.search(0), BAD);
        due("a word", x.seed(2), 2);
        due("search 61", x.search(61), BAD);
        due("a word", x.seed(3), 3);
        x.search(1);
        due("begun", x.seed(4), NO);
    }

    /** "the first of: .. NO -3 ..; FULL -4": sixteen words, and the search has begun. */
    private void begunGoesBeforeFull() {
        SignHouse x = new SignHouse(31, 1);
        for (int i = 1; i <= 16; i++) {
            x.seed(i);
        }
        due("full", x.seed(1), FULL);
        x.search(1);
        due("begun and full", x.seed(1), NO);
    }

    /** "WORDS (ints)", "each as four bytes, the highest first" */
    private void everyIntIsAWord() {
        int[] words = {LEAST, LEAST + 1, -1, 0, 1, 127, 128, 255, 256, 0x01020304, 0x04030201, 0x80FF7F00, MOST};
        for (int word : words) {
            due("word " + word, new SignHouse(31, 1).seed(word), 1);
            sameKey("word " + word, Houses.withKey(31, 1, word), Houses.modelWithKey(31, 1, word));
        }
    }

    /** "SEEDS are rows": a word of 0 is a word, and one more of them is another seed. */
    private void wordsOfZeroAreWords() {
        SignHouse one = Houses.withKey(31, 1, 0);
        SignHouse two = Houses.withKey(31, 1, 0, 0);
        sameKey("one 0", one, Houses.modelWithKey(31, 1, 0));
        sameKey("two 0", two, Houses.modelWithKey(31, 1, 0, 0));
        checks.holds("they are not the same", !Houses.keyNumber(one, 0).equals(Houses.keyNumber(two, 0)));
    }

    // ---- the draw

    private void draws() {
        seedsOfEveryLength();
        bytesAreTakenOnce();
        blocksBeyondOneByte();
        highestTwoBitsAndTheLowest();
    }

    /** "the hash .. of its WORDS .. and then k": of 13 words or more it needs a second block of FIPS 180-4. */
    private void seedsOfEveryLength() {
        for (int length = 1; length <= 16; length++) {
            int[] words = new int[length];
            for (int i = 0; i < length; i++) {
                words[i] = (i + 1) * 0x9E3779B9;
            }
            sameKey(length + " words", Houses.withKey(31, 1, words), Houses.modelWithKey(31, 1, words));
        }
    }

    /** "bytes of block 0, then of block 1, and so on, each once": HALF below, at and above a block's 32. */
    private void bytesAreTakenOnce() {
        for (int half = 31; half <= 40; half++) {
            Model model = Houses.modelWithKey(half, 1, 1000 + half);
            sameKey("at once", Houses.withKey(half, 1, 1000 + half), model);
            SignHouse x = Houses.seeded(half, 1, 1000 + half);
            int calls = 0;
            while (calls < 400 && x.search(1 + calls % 3) == 0) {
                calls++;
            }
            sameKey("by one, two and three", x, model);
        }
    }

    /** "and then k likewise": four bytes of it, so that the 257th block is not the first again. */
    private void blocksBeyondOneByte() {
        SignHouse x = Houses.withKey(40, 1, MANY_BLOCKS);
        due("examined", x.count(3), 644);
        sameKey("805 blocks", x, Houses.modelWithKey(40, 1, MANY_BLOCKS));
    }

    /** "but with its highest two bits and its lowest one set" */
    private void highestTwoBitsAndTheLowest() {
        int[][] drawn = {{GOOD_OF_BYTES_63_TO_122, 63, 122}, {GOOD_OF_BYTES_249_TO_127, 249, 127}};
        for (int[] word : drawn) {
            byte[] block = Model.sha256(new byte[] {0, 0, (byte) (word[0] >> 8), (byte) word[0], 0, 0, 0, 0});
            due("the first byte drawn", block[0] & 255, word[1]);
            due("the last byte drawn", block[30] & 255, word[2]);
            SignHouse x = Houses.withKey(31, 8, word[0]);
            BigInteger good = Houses.firstCandidate(word[0]);
            int part = Houses.keyNumber(x, 2).equals(good) ? 2 : 3;
            due("its highest byte", x.key(part, 0), word[1] | 192);
            due("its second byte", x.key(part, 1), block[1] & 255);
            due("its lowest byte", x.key(part, 30), word[2] | 1);
        }
    }

    // ---- promise 3

    private void searches() {
        fromOneToSixty();
        sixtyAndNotOneMore();
        stopsAtTheKey();
        keyOfTheFirstTwo();
        nothingMoreOnceThereIsTheKey();
        notYetWithOnePrime();
        noSearchWithoutAWord();
        badGoesBeforeNoWord();
        badGoesBeforeTheKey();
    }

    /** "n (1 .. 60)", "BAD" */
    private void fromOneToSixty() {
        int[] wrong = {LEAST, -60, -1, 0, 61, 62, 256 + 1, 65536 + 1, MOST};
        for (int n : wrong) {
            SignHouse y = Houses.seeded(31, 1, 7);
            String before = Houses.stateOf(y);
            due("search " + n, y.search(n), BAD);
            unchanged("search " + n, y, before);
        }
        SignHouse x = Houses.seeded(31, 1, 7);
        due("search 1", x.search(1), 0);
        due("one was examined", x.count(3), 1);
    }

    /** "examines up to n (1 .. 60) further CANDIDATES" */
    private void sixtyAndNotOneMore() {
        SignHouse x = Houses.seeded(31, 1, 7);
        due("search 60", x.search(60), 0);
        due("sixty were examined", x.count(3), 60);
        due("search 1", x.search(1), 0);
        due("one more", x.count(3), 61);
        due("search 43", x.search(43), 0);
        due("all but one", x.count(3), 104);
        due("the last one", x.search(1), 1);
        due("all", x.count(3), 105);
    }

    /** "1 there is THE KEY", "0 not yet": at the last candidate of a call, one before it, one behind it. */
    private void stopsAtTheKey() {
        SignHouse before = Houses.seeded(31, 1, KEY_AT_59);
        due("the key is the 59th", before.search(60), 1);
        due("59 were examined", before.count(3), 59);
        SignHouse at = Houses.seeded(31, 1, KEY_AT_60);
        due("59 of 60", at.search(59), 0);
        due("the key is the 60th", at.search(1), 1);
        due("60 were examined", at.count(3), 60);
        SignHouse atOnce = Houses.seeded(31, 1, KEY_AT_60);
        due("60 at once", atOnce.search(60), 1);
        due("60 were examined", atOnce.count(3), 60);
        SignHouse behind = Houses.seeded(31, 1, KEY_AT_61);
        due("60 of 61", behind.search(60), 0);
        due("no key yet", behind.key(0, 0), NO);
        due("the key is the 61st", behind.search(60), 1);
        due("61 were examined", behind.count(3), 61);
    }

    /** The soonest that there can be a key: "the first GOOD one is p, the next one q". */
    private void keyOfTheFirstTwo() {
        SignHouse x = Houses.seeded(31, 8, FIRST_TWO_ARE_GOOD_AND_FALL);
        due("search 60", x.search(60), 1);
        due("two were examined", x.count(3), 2);
        due("no small prime divided them", x.count(4), 2);
        SignHouse y = Houses.seeded(31, 8, FIRST_TWO_ARE_GOOD_AND_FALL);
        due("search 1", y.search(1), 0);
        due("search 1", y.search(1), 1);
        SignHouse z = Houses.seeded(31, 8, FIRST_TWO_ARE_GOOD_AND_FALL);
        due("search 2", z.search(2), 1);
        due("two were examined", z.count(3), 2);
    }

    /** "(also if there was; then nothing is examined)" */
    private void nothingMoreOnceThereIsTheKey() {
        SignHouse x = Houses.withKey(31, 1, 7);
        String before = Houses.stateOf(x);
        due("search 1", x.search(1), 1);
        due("search 60", x.search(60), 1);
        unchanged("a search behind the key", x, before);
    }

    /** "0 not yet": p alone is no key. */
    private void notYetWithOnePrime() {
        SignHouse x = Houses.seeded(31, 8, FIRST_TWO_ARE_GOOD_AND_FALL);
        due("p is found", x.search(1), 0);
        for (int part = 0; part < KEY_PARTS; part++) {
            due("key " + part, x.key(part, 0), NO);
        }
        due("sign", x.sign(), NO);
        due("verify", x.verify(), NO);
        due("power", x.power(true), NO);
    }

    /** "NO: THE SEED has no WORD." */
    private void noSearchWithoutAWord() {
        SignHouse x = new SignHouse(31, 1);
        String before = Houses.stateOf(x);
        due("search 1", x.search(1), NO);
        due("search 60", x.search(60), NO);
        unchanged("a search without a word", x, before);
        x.seed(7);
        due("one word is enough", x.search(60), 0);
        x.forget();
        due("forgotten", x.search(60), NO);
    }

    /** "the first of: BAD ..; NO" */
    private void badGoesBeforeNoWord() {
        SignHouse x = new SignHouse(31, 1);
        due("search 0 without a word", x.search(0), BAD);
        due("search 61 without a word", x.search(61), BAD);
        due("search -1 without a word", x.search(-1), BAD);
    }

    /** "BAD", though "there is THE KEY (also if there was ..)" */
    private void badGoesBeforeTheKey() {
        SignHouse x = Houses.withKey(31, 1, 7);
        due("search 0 behind the key", x.search(0), BAD);
        due("search 61 behind the key", x.search(61), BAD);
    }

    // ---- the good ones

    private void primes() {
        leavesNotOneByE();
        theGreaterIsP();
        theGreaterIsPIfItCameLast();
        everyPartIsTheLeastNumber();
    }

    /** "it leaves not 1 by 65537": a prime that does becomes neither p nor, behind p, q. */
    private void leavesNotOneByE() {
        for (LeavesOne one : LEAVE_ONE) {
            Model model = Houses.seededModel(one.half, one.rounds, one.seed);
            int good = 0;
            for (int i = 1; i < one.number; i++) {
                good += model.nextCandidate().isProbablePrime(40) ? 1 : 0;
            }
            due("good ones before it", good, one.goodBefore);
            BigInteger c = model.nextCandidate();
            checks.holds("a prime", c.isProbablePrime(40));
            checks.holds("that leaves 1", c.mod(Model.E).equals(BigInteger.ONE));
            isNotGood(Houses.seeded(one.half, one.rounds, one.seed), one, c);
        }
    }

    private void isNotGood(SignHouse x, LeavesOne one, BigInteger c) {
        while (x.count(3) < one.number - 1) {
            due("those before it", x.search(Math.min(60, one.number - 1 - x.count(3))), 0);
        }
        int undivided = x.count(4);
        due("it", x.search(1), 0);
        due("no small prime divides it", x.count(4), undivided + 1);
        due("no key with it", x.key(0, 0), NO);
        Houses.findKey(x);
        checks.holds("not p", !Houses.keyNumber(x, 2).equals(c));
        checks.holds("not q", !Houses.keyNumber(x, 3).equals(c));
        sameKey("behind it", x, Houses.modelWithKey(one.half, one.rounds, one.seed));
    }

    /** "if p is below q then, they are exchanged": they are not. */
    private void theGreaterIsP() {
        SignHouse x = Houses.withKey(31, 8, FIRST_TWO_ARE_GOOD_AND_FALL);
        checks.holds("the first is p", Houses.keyNumber(x, 2).equals(Houses.firstCandidate(FIRST_TWO_ARE_GOOD_AND_FALL)));
        checks.holds("and above q", Houses.keyNumber(x, 2).compareTo(Houses.keyNumber(x, 3)) > 0);
        sameKey("falling", x, Houses.modelWithKey(31, 8, FIRST_TWO_ARE_GOOD_AND_FALL));
    }

    /** "if p is below q then, they are exchanged": they are. */
    private void theGreaterIsPIfItCameLast() {
        SignHouse x = Houses.withKey(31, 8, FIRST_TWO_ARE_GOOD_AND_RISE);
        due("two were examined", x.count(3), 2);
        checks.holds("the first is q", Houses.keyNumber(x, 3).equals(Houses.firstCandidate(FIRST_TWO_ARE_GOOD_AND_RISE)));
        checks.holds("and below p", Houses.keyNumber(x, 2).compareTo(Houses.keyNumber(x, 3)) > 0);
        sameKey("rising", x, Houses.modelWithKey(31, 8, FIRST_TWO_ARE_GOOD_AND_RISE));
    }

    /** "the least numbers above 0": d below (p - 1) (q - 1), dP below p - 1, dQ below q - 1, qI below p. */
    private void everyPartIsTheLeastNumber() {
        for (int word = 0; word < 40; word++) {
            SignHouse x = Houses.withKey(31, 1, word);
            BigInteger p = Houses.keyNumber(x, 2), q = Houses.keyNumber(x, 3);
            BigInteger pLess = p.subtract(BigInteger.ONE), qLess = q.subtract(BigInteger.ONE);
            BigInteger[] below = {null, pLess.multiply(qLess), null, null, pLess, qLess, p};
            for (int part : new int[] {1, 4, 5, 6}) {
                BigInteger number = Houses.keyNumber(x, part);
                checks.holds("above 0", number.signum() > 0);
                checks.holds("the least", number.compareTo(below[part]) < 0);
            }
        }
    }

    // ---- promise 4

    private void forgets() {
        nothingToForget();
        howManyWereExamined();
        aSearchBehindItBeginsAnew();
        aPrimeBehindItMayComeAgain();
        messageAndRegisterStay();
        signedAndVerifiedEver();
    }

    /** "how many CANDIDATES were examined": none. */
    private void nothingToForget() {
        SignHouse x = new SignHouse(31, 1);
        due("forget nothing", x.forget(), 0);
        x.seed(1);
        due("forget a word", x.forget(), 0);
        due("no words", x.count(2), 0);
        due("no search", x.search(1), NO);
        for (int i = 1; i <= 16; i++) {
            x.seed(i);
        }
        due("forget sixteen words", x.forget(), 0);
        due("the first word again", x.seed(9), 1);
    }

    /** "how many CANDIDATES were examined": one, some, as far as the key; then none any more. */
    private void howManyWereExamined() {
        SignHouse x = Houses.seeded(31, 1, 7);
        x.search(1);
        due("one", x.forget(), 1);
        due("none any more", x.forget(), 0);
        x.seed(7);
        x.search(60);
        due("sixty", x.forget(), 60);
        x.seed(7);
        Houses.findKey(x);
        due("as far as the key", x.forget(), 105);
        for (int what = 2; what <= 4; what++) {
            due("count " + what, x.count(what), 0);
        }
        due("none any more", x.forget(), 0);
    }

    /** "No SEED, .. no SEARCH": neither bytes of the draw nor words are left over. */
    private void aSearchBehindItBeginsAnew() {
        Model model = Houses.modelWithKey(31, 1, 7);
        for (int examined = 1; examined <= 9; examined++) {
            SignHouse x = Houses.seeded(31, 1, 5, 6);
            x.search(examined);
            x.forget();
            x.seed(7);
            Houses.findKey(x);
            sameKey("behind " + examined, x, model);
        }
    }

    /** "No SEED, no KEY, no SEARCH": "it is not p (if that was found)" asks for the p of this search. */
    private void aPrimeBehindItMayComeAgain() {
        SignHouse x = Houses.seeded(31, 8, FIRST_TWO_ARE_GOOD_AND_FALL);
        x.search(1);
        due("forget p", x.forget(), 1);
        x.seed(FIRST_TWO_ARE_GOOD_AND_FALL);
        due("p alone", x.search(1), 0);
        due("p and q", x.search(1), 1);
        due("forget p and q", x.forget(), 2);
        due("no key", x.key(0, 0), NO);
        x.seed(FIRST_TWO_ARE_GOOD_AND_FALL);
        due("p alone again", x.search(1), 0);
        due("no key yet", x.key(0, 0), NO);
        due("p and q again", x.search(1), 1);
    }

    /** "(THE MESSAGE, THE REGISTER stay.)" */
    private void messageAndRegisterStay() {
        SignHouse x = Houses.withKey(31, 1, 7);
        Houses.feedMany(x, 300);
        x.sign();
        BigInteger signature = Houses.registerOf(x);
        int first = x.hash(0);
        int last = x.hash(31);
        x.forget();
        due("300 bytes", x.count(5), 300);
        due("its hash", x.hash(0), first);
        due("its hash", x.hash(31), last);
        due("it is full still", x.feed(1, 1), FULL);
        checks.holds("the register", Houses.registerOf(x).equals(signature));
        x.seed(7);
        Houses.findKey(x);
        due("the same key verifies it", x.verify(), 1);
    }

    /** "6 SIGNED, 7 VERIFIED ever": they are not forgotten. */
    private void signedAndVerifiedEver() {
        SignHouse x = Houses.withKey(31, 1, 7);
        x.sign();
        x.sign();
        x.verify();
        x.forget();
        due("signed", x.count(6), 2);
        due("verified", x.count(7), 1);
        x.seed(7);
        Houses.findKey(x);
        x.sign();
        x.verify();
        due("signed", x.count(6), 3);
        due("verified", x.count(7), 2);
    }

    // ---- promise 5

    private void keys() {
        whatIsFromNoneToSix();
        everyPartHasItsBytes(31);
        everyPartHasItsBytes(40);
        badGoesBeforeNoKey();
        noPartOnceItIsForgotten();
        highestBytesOfZero();
    }

    /** "of 0 n .., 1 d .., 2 p, 3 q, 4 dP, 5 dQ, 6 qI", "BAD" */
    private void whatIsFromNoneToSix() {
        SignHouse x = Houses.withKey(31, 1, 7);
        String before = Houses.stateOf(x);
        int[] wrong = {LEAST, -1, 7, 8, 256, MOST};
        for (int what : wrong) {
            due("key " + what + ", 0", x.key(what, 0), BAD);
            due("key " + what + ", 30", x.key(what, 30), BAD);
        }
        due("key 0", x.key(0, 0), 216);
        due("key 6", x.key(6, 30), 93);
        unchanged("key", x, before);
    }

    /** "n (SIZE bytes), 1 d (SIZE), .. (HALF bytes each). BAD: also an i that it has not" */
    private void everyPartHasItsBytes(int half) {
        SignHouse x = Houses.withKey(half, 1, 7);
        Model model = Houses.modelWithKey(half, 1, 7);
        for (int what = 0; what < KEY_PARTS; what++) {
            int length = what < 2 ? 2 * half : half;
            int[] wrong = {LEAST, -1, length, length + 1, 2 * half, 2 * half + 1, MOST};
            for (int i : wrong) {
                due("key " + what + ", " + i, x.key(what, i), BAD);
            }
            int[] right = {0, 1, half - 1, length - 1};
            for (int i : right) {
                due("key " + what + ", " + i, x.key(what, i), model.key(what, i));
            }
        }
    }

    /** "the first of: BAD ..; NO -3 there is no KEY" */
    private void badGoesBeforeNoKey() {
        SignHouse x = new SignHouse(31, 1);
        for (int what = 0; what < KEY_PARTS; what++) {
            int length = what < 2 ? 62 : 31;
            due("no key: " + what + ", 0", x.key(what, 0), NO);
            due("no key: " + what + ", last", x.key(what, length - 1), NO);
            due("no key: " + what + ", one more", x.key(what, length), BAD);
            due("no key: " + what + ", one less", x.key(what, -1), BAD);
        }
        due("no key: -1", x.key(-1, 0), BAD);
        due("no key: 7", x.key(7, 0), BAD);
        due("no key: both wrong", x.key(7, -1), BAD);
    }

    /** "No SEED, no KEY": "NO" */
    private void noPartOnceItIsForgotten() {
        SignHouse x = Houses.withKey(31, 1, 7);
        x.forget();
        for (int what = 0; what < KEY_PARTS; what++) {
            due("forgotten: " + what, x.key(what, 0), NO);
        }
    }

    /** "Byte i, the highest being 0": of a number that needs not all its bytes the highest is 0. */
    private void highestBytesOfZero() {
        for (int what = 0; what < KEY_PARTS; what++) {
            if (HIGHEST_BYTE_0[what] >= 0) {
                SignHouse x = Houses.withKey(31, 1, HIGHEST_BYTE_0[what]);
                due("the highest byte of " + what, x.key(what, 0), 0);
                checks.holds("the next one", x.key(what, 1) > 0);
                sameKey("with a highest byte of 0", x, Houses.modelWithKey(31, 1, HIGHEST_BYTE_0[what]));
            }
        }
    }

    // ---- promise 6

    private void counts() {
        countsFromNoneToSeven();
        refusedCallsAreNotCounted();
        whateverCameOfIt();
        noPrimeBelow256Divided();
    }

    /** "How many: 0 HALF, .. 7 VERIFIED ever .. BAD." */
    private void countsFromNoneToSeven() {
        SignHouse x = Houses.seeded(40, 8, 7, 7, 7);
        x.search(1);
        x.feed(1, 8);
        String before = Houses.stateOf(x);
        int[] wrong = {LEAST, -8, -1, 8, 9, 256, MOST};
        for (int what : wrong) {
            due("count " + what, x.count(what), BAD);
        }
        int[] want = {40, 8, 3, 1, x.count(4), 8, 0, 0};
        for (int what = 0; what < want.length; what++) {
            due("count " + what, x.count(what), want[what]);
        }
        unchanged("count", x, before);
    }

    /** "Refused, changing nothing": "6 SIGNED, 7 VERIFIED" are as they were. */
    private void refusedCallsAreNotCounted() {
        SignHouse x = new SignHouse(31, 1);
        x.sign();
        x.verify();
        due("signed", x.count(6), 0);
        due("verified", x.count(7), 0);
        due("search without a word", x.search(1), NO);
        due("examined", x.count(3), 0);
        due("undivided", x.count(4), 0);
    }

    /** "7 VERIFIED ever (whatever came of it)" */
    private void whateverCameOfIt() {
        SignHouse x = Houses.withKey(31, 1, 7);
        due("a wrong one", x.verify(), 0);
        due("verified", x.count(7), 1);
        x.sign();
        due("a right one", x.verify(), 1);
        due("verified", x.count(7), 2);
        Houses.putRegister(x, Houses.keyNumber(x, 0));
        due("not below n", x.verify(), 0);
        due("verified", x.count(7), 3);
        due("signed", x.count(6), 1);
    }

    /** "how many of these no prime below 256 divided": 3 and 251 are the least and the last that count. */
    private void noPrimeBelow256Divided() {
        int[][] firsts = {{DIVIDED_BY_3_ALONE, 3, 0}, {DIVIDED_BY_251_ALONE, 251, 0}, {DIVIDED_BY_257, 257, 1}};
        for (int[] first : firsts) {
            due("its least divisor", Model.leastOddDivisor(Houses.firstCandidate(first[0]), 300), first[1]);
            SignHouse x = Houses.seeded(31, 8, first[0]);
            x.search(1);
            due("examined", x.count(3), 1);
            due("divided by " + first[1], x.count(4), first[2]);
        }
    }
}
