import java.math.BigInteger;

/** Houses made ready for a test, and what can be read of them as numbers. */
final class Houses {
    private Houses() {
    }

    static SignHouse seeded(int half, int rounds, int... words) {
        SignHouse x = new SignHouse(half, rounds);
        for (int word : words) {
            x.seed(word);
        }
        return x;
    }

    static SignHouse withKey(int half, int rounds, int... words) {
        SignHouse x = seeded(half, rounds, words);
        findKey(x);
        return x;
    }

    static void findKey(SignHouse x) {
        int calls = 0;
        while (calls < 60 && x.search(60) == 0) {
            calls++;
        }
    }

    static Model seededModel(int half, int rounds, int... words) {
        Model model = new Model(half, rounds);
        for (int word : words) {
            model.seed(word);
        }
        return model;
    }

    static Model modelWithKey(int half, int rounds, int... words) {
        Model model = seededModel(half, rounds, words);
        int found = 0;
        while (found == 0) {
            found = model.search(60);
        }
        return model;
    }

    /** The first candidate that the seed of this one word draws for a HALF of 31. */
    static BigInteger firstCandidate(int word) {
        return seededModel(31, 8, word).nextCandidate();
    }

    static BigInteger keyNumber(SignHouse x, int what) {
        int length = what < 2 ? 2 * x.count(0) : x.count(0);
        byte[] row = new byte[length];
        for (int i = 0; i < length; i++) {
            row[i] = (byte) x.key(what, i);
        }
        return new BigInteger(1, row);
    }

    static BigInteger registerOf(SignHouse x) {
        byte[] row = new byte[2 * x.count(0)];
        for (int i = 0; i < row.length; i++) {
            row[i] = (byte) x.get(i);
        }
        return new BigInteger(1, row);
    }

    static void putRegister(SignHouse x, BigInteger number) {
        int size = 2 * x.count(0);
        for (int i = 0; i < size; i++) {
            x.set(i, number.shiftRight(8 * (size - 1 - i)).intValue() & 255);
        }
    }

    static BigInteger encodedOf(SignHouse x) {
        byte[] row = new byte[2 * x.count(0)];
        for (int i = 0; i < row.length; i++) {
            row[i] = (byte) x.encoded(i);
        }
        return new BigInteger(1, row);
    }

    static void feedText(SignHouse x, String text) {
        for (int i = 0; i < text.length(); i++) {
            x.feed(text.charAt(i), 1);
        }
    }

    /** Feeds so many bytes, each 90 (a 'Z'), in as few calls as can be. */
    static void feedMany(SignHouse x, int bytes) {
        for (int left = bytes; left > 0; left -= Math.min(8, left)) {
            x.feed(0x5A5A5A5A5A5A5A5AL, Math.min(8, left));
        }
    }

    /** All that a call could have changed and that shows without a change: in 35 calls. */
    static String stateOf(SignHouse x) {
        StringBuilder all = new StringBuilder();
        all.append(x.digest()).append(' ').append(x.count(0)).append(' ').append(x.count(1));
        for (int i = 0; i < 32; i++) {
            all.append(' ').append(x.hash(i));
        }
        return all.toString();
    }
}
