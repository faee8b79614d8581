import java.util.Arrays;

/** Promises 7 to 10 at their boundaries: each method holds one sentence of the document, told above it. */
final class MessageBoundaryTest {
    private static final int BAD = -2, FULL = -4;
    private static final int LEAST = Integer.MIN_VALUE, MOST = Integer.MAX_VALUE;

    /** How FIPS 180-4 fills its blocks changes between these lengths; 300 is the most there can be. */
    private static final int[] LENGTHS = {
        0, 1, 55, 56, 57, 63, 64, 65, 119, 120, 121, 127, 128, 183, 184, 247, 248, 255, 256, 257, 299, 300
    };

    private final Checks checks = new Checks();

    public static void main(String[] args) {
        MessageBoundaryTest test = new MessageBoundaryTest();
        test.feeds();
        test.cuts();
        test.hashes();
        test.encodes();
        test.checks.end("MessageBoundaryTest");
    }

    private void due(String what, long got, long want) {
        checks.due(what, got, want);
    }

    private void unchanged(String what, SignHouse x, String before) {
        checks.holds(what + " changes nothing", Houses.stateOf(x).equals(before));
    }

    private static SignHouse ofBytes(int bytes) {
        SignHouse x = new SignHouse(31, 1);
        Houses.feedMany(x, bytes);
        return x;
    }

    private void isMessage(String what, SignHouse x, int... bytes) {
        byte[] row = new byte[bytes.length];
        for (int i = 0; i < bytes.length; i++) {
            row[i] = (byte) bytes[i];
        }
        isMessage(what, x, row);
    }

    private void isMessage(String what, SignHouse x, byte[] bytes) {
        due(what + ": bytes", x.count(5), bytes.length);
        byte[] want = Model.sha256(bytes);
        for (int i = 0; i < 32; i++) {
            due(what + ": hash " + i, x.hash(i), want[i] & 255);
        }
    }

    private static byte[] many(int bytes) {
        byte[] row = new byte[bytes];
        Arrays.fill(row, (byte) 0x5A);
        return row;
    }

    // ---- promise 7

    private void feeds() {
        fromOneToEight();
        theLowestBytesTheHighestFirst();
        everyLongHasItsBytes();
        fullAboveThreeHundred();
        everyWayAboveThreeHundred();
        badGoesBeforeFull();
        roomOnceItIsCut();
    }

    /** "BAD: n is not 1 .. 8" */
    private void fromOneToEight() {
        int[] wrong = {LEAST, -8, -1, 0, 9, 10, 16, 256 + 1, 65536 + 1, MOST};
        for (int n : wrong) {
            SignHouse y = ofBytes(3);
            String before = Houses.stateOf(y);
            due("feed of " + n, y.feed(-1, n), BAD);
            unchanged("feed of " + n, y, before);
        }
        SignHouse x = ofBytes(3);
        int bytes = 3;
        for (int n = 1; n <= 8; n++) {
            bytes += n;
            due("feed of " + n, x.feed(1, n), bytes);
            due("bytes", x.count(5), bytes);
        }
    }

    /** "the lowest of w, the highest of these first" */
    private void theLowestBytesTheHighestFirst() {
        int[] all = {1, 2, 3, 4, 5, 6, 7, 8};
        for (int n = 1; n <= 8; n++) {
            SignHouse x = new SignHouse(31, 1);
            x.feed(0x0102030405060708L, n);
            isMessage("the lowest " + n, x, Arrays.copyOfRange(all, 8 - n, 8));
        }
    }

    /** The same sentence, of the least and the most that w can be, and of bytes above 127. */
    private void everyLongHasItsBytes() {
        SignHouse least = new SignHouse(31, 1);
        least.feed(Long.MIN_VALUE, 8);
        isMessage("the least long", least, 128, 0, 0, 0, 0, 0, 0, 0);
        SignHouse most = new SignHouse(31, 1);
        most.feed(Long.MAX_VALUE, 8);
        isMessage("the most", most, 127, 255, 255, 255, 255, 255, 255, 255);
        SignHouse below = new SignHouse(31, 1);
        below.feed(-256, 1);
        isMessage("0 below ones", below, 0);
        below.feed(-1, 1);
        isMessage("255", below, 0, 255);
        below.feed(0x80, 2);
        isMessage("128", below, 0, 255, 0, 128);
    }

    /** "FULL: above 300." */
    private void fullAboveThreeHundred() {
        SignHouse x = ofBytes(299);
        String before = Houses.stateOf(x);
        due("299 and 2", x.feed(1, 2), FULL);
        unchanged("299 and 2", x, before);
        due("299 and 1", x.feed(0x5A, 1), 300);
        isMessage("300", x, many(300));
        String full = Houses.stateOf(x);
        due("300 and 1", x.feed(1, 1), FULL);
        due("300 and 8", x.feed(1, 8), FULL);
        unchanged("300 and more", x, full);
    }

    /** The same sentence, for each n: just 300 is taken, and one above is not. */
    private void everyWayAboveThreeHundred() {
        for (int n = 1; n <= 8; n++) {
            SignHouse fits = ofBytes(300 - n);
            due("just 300 by " + n, fits.feed(0x5A5A5A5A5A5A5A5AL, n), 300);
            isMessage("just 300 by " + n, fits, many(300));
            SignHouse over = ofBytes(301 - n);
            due("301 by " + n, over.feed(0, n), FULL);
            isMessage("301 by " + n, over, many(301 - n));
        }
    }

    /** "the first of: BAD ..; FULL" */
    private void badGoesBeforeFull() {
        SignHouse x = ofBytes(300);
        int[] wrong = {LEAST, -1, 0, 9, MOST};
        for (int n : wrong) {
            due("full, feed of " + n, x.feed(1, n), BAD);
        }
        isMessage("still 300", x, many(300));
    }

    /** "FULL: above 300": not once bytes went. */
    private void roomOnceItIsCut() {
        SignHouse x = ofBytes(300);
        due("full", x.feed(1, 1), FULL);
        due("cut one", x.cut(299), 1);
        due("299 and 2", x.feed(1, 2), FULL);
        due("299 and 1", x.feed(0x5A, 1), 300);
        isMessage("300 again", x, many(300));
        due("cut all", x.cut(0), 300);
        due("from 0 on", x.feed(7, 8), 8);
    }

    // ---- promise 8

    private void cuts() {
        fromNoneToAll();
        anEmptyMessage();
        aFullMessage();
        whatWentStaysAway();
    }

    /** "how many went. BAD: n is below 0, or it has not so many." */
    private void fromNoneToAll() {
        int[] wrong = {LEAST, -9, -1, 10, 11, 300, MOST};
        for (int n : wrong) {
            SignHouse y = ofBytes(9);
            String before = Houses.stateOf(y);
            due("cut " + n + " of 9", y.cut(n), BAD);
            unchanged("cut " + n + " of 9", y, before);
        }
        SignHouse x = ofBytes(9);
        due("all stay", x.cut(9), 0);
        isMessage("all stay", x, many(9));
        due("one goes", x.cut(8), 1);
        isMessage("one goes", x, many(8));
        due("9 of 8", x.cut(9), BAD);
        due("all but one go", x.cut(1), 7);
        isMessage("one stays", x, many(1));
        due("all go", x.cut(0), 1);
        isMessage("none stays", x, many(0));
    }

    /** "it has not so many": of none. */
    private void anEmptyMessage() {
        SignHouse x = new SignHouse(31, 1);
        due("cut 0", x.cut(0), 0);
        due("cut 1", x.cut(1), BAD);
        due("cut -1", x.cut(-1), BAD);
        isMessage("empty", x, many(0));
    }

    /** "it has not so many": of 300. */
    private void aFullMessage() {
        SignHouse x = ofBytes(300);
        due("cut 301", x.cut(301), BAD);
        due("cut 300", x.cut(300), 0);
        isMessage("all stay", x, many(300));
        due("cut 299", x.cut(299), 1);
        isMessage("299", x, many(299));
        due("cut 300 of 299", x.cut(300), BAD);
        due("cut 0", x.cut(0), 299);
        isMessage("empty", x, many(0));
    }

    /** "THE MESSAGE has only its first n bytes" */
    private void whatWentStaysAway() {
        SignHouse x = new SignHouse(31, 1);
        x.feed(0x0102030405060708L, 8);
        due("cut 3", x.cut(3), 5);
        isMessage("the first three", x, 1, 2, 3);
        due("cut 4", x.cut(4), BAD);
        x.feed(9, 1);
        isMessage("one behind them", x, 1, 2, 3, 9);
        x.feed(0, 2);
        isMessage("zeros behind it", x, 1, 2, 3, 9, 0, 0);
    }

    // ---- promise 9

    private void hashes() {
        bytesOfTheHash();
        lengthsOfTheMessage();
    }

    /** "Byte i (0 .. 31) of its hash. BAD." */
    private void bytesOfTheHash() {
        SignHouse x = new SignHouse(31, 1);
        Houses.feedText(x, "abc");
        String before = Houses.stateOf(x);
        int[] wrong = {LEAST, -32, -1, 32, 33, 256, MOST};
        for (int i : wrong) {
            due("hash " + i, x.hash(i), BAD);
        }
        due("hash 0 of abc", x.hash(0), 0xba);
        due("hash 31 of abc", x.hash(31), 0xad);
        unchanged("hash", x, before);
    }

    /** "THE MESSAGE has at most 300 bytes", "SHA-256, as published" */
    private void lengthsOfTheMessage() {
        for (int length : LENGTHS) {
            isMessage(length + " bytes", ofBytes(length), many(length));
        }
    }

    // ---- promise 10

    private void encodes() {
        for (int half = 31; half <= 40; half++) {
            bytesOfTheEncoded(half);
            placesOfTheEncoded(half);
        }
        needsNoKey();
    }

    /** "Byte i of it ENCODED. BAD: not 0 .. SIZE - 1." */
    private void bytesOfTheEncoded(int half) {
        SignHouse x = new SignHouse(half, 1);
        int size = 2 * half;
        String before = Houses.stateOf(x);
        int[] wrong = {LEAST, -1, size, size + 1, 256, MOST};
        for (int i : wrong) {
            due("encoded " + i + " of " + size, x.encoded(i), BAD);
        }
        due("encoded 0 of " + size, x.encoded(0), 0);
        due("encoded " + (size - 1), x.encoded(size - 1), 0x55);
        unchanged("encoded", x, before);
    }

    /** "0, 1, 255 as often as need be, 0, then 48, .., 32, then the 32 bytes of its hash" */
    private void placesOfTheEncoded(int half) {
        SignHouse x = new SignHouse(half, 1);
        int size = 2 * half;
        due("the second byte of " + size, x.encoded(1), 1);
        for (int i = 2; i < size - 52; i++) {
            due("255 at " + i + " of " + size, x.encoded(i), 255);
        }
        due("0 behind them, of " + size, x.encoded(size - 52), 0);
        due("48, of " + size, x.encoded(size - 51), 48);
        due("32, of " + size, x.encoded(size - 33), 32);
        due("the hash's first byte, of " + size, x.encoded(size - 32), 0xe3);
    }

    /** "Byte i of it ENCODED": of the empty and of the full message, with a key as without. */
    private void needsNoKey() {
        SignHouse without = ofBytes(300);
        SignHouse with = Houses.withKey(31, 1, 7);
        Houses.feedMany(with, 300);
        byte[] hash = Model.sha256(many(300));
        for (int i = 0; i < 32; i++) {
            due("without a key " + i, without.encoded(30 + i), hash[i] & 255);
            due("with a key " + i, with.encoded(30 + i), hash[i] & 255);
        }
    }
}
