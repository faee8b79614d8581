import java.math.BigInteger;
import java.util.ArrayList;
import java.util.List;
import java.util.function.ToLongFunction;

/**
 * "Refused, changing nothing, the first of: BAD -2 a number is not as told; NO -3 there is no KEY, or as
 * told; FULL -4": every refusal in every situation; neither what shows then nor what comes later is changed.
 */
final class RefusalTest {
    private static final int BAD = -2, NO = -3, FULL = -4;
    private static final int LEAST = Integer.MIN_VALUE, MOST = Integer.MAX_VALUE;
    private static final int SOME_KEY = 7;

    /** How far a house has come. */
    private enum Way {
        NEW(0, false, false), ONE_WORD(1, false, false), SIXTEEN_WORDS(16, false, false),
        BEGUN(1, true, false), BEGUN_WITH_SIXTEEN(16, true, false), WITH_P(1, true, false),
        WITH_KEY(1, true, true), FORGOTTEN(0, false, false), BEGUN_ANEW(1, true, false);

        final int words;
        final boolean begun;
        final boolean hasKey;

        Way(int words, boolean begun, boolean hasKey) {
            this.words = words;
            this.begun = begun;
            this.hasKey = hasKey;
        }
    }

    private record Call(String name, ToLongFunction<SignHouse> of, long refusal) {
    }

    private static final Checks CHECKS = new Checks();

    private final int half;
    private final int size;
    private final int rounds;

    /** Of this HALF a word whose first candidate is good. */
    private final int firstIsGood;

    /** Whether each house had, before all that, a key by which it signed and verified. */
    private final boolean hasPast;

    private RefusalTest(int half, int rounds, int firstIsGood, boolean hasPast) {
        this.half = half;
        this.size = 2 * half;
        this.rounds = rounds;
        this.firstIsGood = firstIsGood;
        this.hasPast = hasPast;
    }

    public static void main(String[] args) {
        RefusalTest[] tests = {new RefusalTest(31, 8, 106, false), new RefusalTest(40, 1, 32, true)};
        for (RefusalTest test : tests) {
            for (Way way : Way.values()) {
                for (int bytes : new int[] {0, 293, 300}) {
                    test.refuses(way, bytes, false);
                }
                test.refuses(way, 300, true);
            }
        }
        CHECKS.end("RefusalTest");
    }

    private static void signAndForget(SignHouse x) {
        x.seed(SOME_KEY);
        Houses.findKey(x);
        x.sign();
        x.verify();
        x.forget();
    }

    private SignHouse house(Way way, int bytes, boolean registerIsHigh) {
        SignHouse x = new SignHouse(half, rounds);
        if (hasPast) {
            signAndForget(x);
        }
        Houses.feedMany(x, bytes);
        x.encode();
        if (way == Way.FORGOTTEN || way == Way.BEGUN_ANEW) {
            signAndForget(x);
        }
        while (x.count(2) < way.words) {
            x.seed(way == Way.WITH_P ? firstIsGood : SOME_KEY + x.count(2));
        }
        if (way.hasKey) {
            Houses.findKey(x);
        }
        if (way.begun && !way.hasKey) {
            x.search(1);
        }
        if (registerIsHigh) {
            BigInteger most = BigInteger.ONE.shiftLeft(8 * size).subtract(BigInteger.ONE);
            Houses.putRegister(x, way.hasKey ? Houses.keyNumber(x, 0) : most);
        }
        return x;
    }

    private void isAsTold(String at, Way way, int bytes, SignHouse x) {
        CHECKS.due(at + "words", x.count(2), way.words);
        CHECKS.due(at + "bytes", x.count(5), bytes);
        CHECKS.holds(at + "begun", x.count(3) > 0 == way.begun);
        CHECKS.holds(at + "key", x.key(0, 0) >= 0 == way.hasKey);
        CHECKS.due(at + "signed", x.count(6), (hasPast ? 1 : 0) + (way == Way.FORGOTTEN || way == Way.BEGUN_ANEW ? 1 : 0));
        BigInteger first = Houses.seededModel(half, rounds, firstIsGood).nextCandidate();
        CHECKS.holds("its first candidate is good", first.isProbablePrime(40));
    }

    private void refuses(Way way, int bytes, boolean registerIsHigh) {
        List<Call> calls = new ArrayList<>();
        addKeyCalls(calls, way);
        addMessageCalls(calls, bytes);
        addRegisterCalls(calls);
        if (!way.hasKey) {
            calls.add(new Call("sign()", x -> x.sign(), NO));
            calls.add(new Call("verify()", x -> x.verify(), NO));
        }
        if (!way.hasKey || registerIsHigh) {
            calls.add(new Call("power(true)", x -> x.power(true), NO));
            calls.add(new Call("power(false)", x -> x.power(false), NO));
        }
        String at = way + ", " + bytes + " bytes" + (registerIsHigh ? ", register high: " : ": ");
        isAsTold(at, way, bytes, house(way, bytes, registerIsHigh));
        String want = story(house(way, bytes, registerIsHigh));
        for (Call call : calls) {
            SignHouse x = house(way, bytes, registerIsHigh);
            String before = Houses.stateOf(x);
            CHECKS.due(at + call.name, call.of.applyAsLong(x), call.refusal);
            CHECKS.holds(at + call.name + " changes nothing", Houses.stateOf(x).equals(before));
            CHECKS.holds(at + call.name + " changes nothing later", story(x).equals(want));
        }
    }

    private void addKeyCalls(List<Call> calls, Way way) {
        if (way.begun) {
            calls.add(new Call("seed(1)", x -> x.seed(1), NO));
        } else if (way.words == 16) {
            calls.add(new Call("seed(1)", x -> x.seed(1), FULL));
        }
        for (int n : new int[] {LEAST, -1, 0, 61, MOST}) {
            calls.add(new Call("search(" + n + ")", x -> x.search(n), BAD));
        }
        for (int n : new int[] {1, 60}) {
            if (way.words == 0) {
                calls.add(new Call("search(" + n + ")", x -> x.search(n), NO));
            }
        }
        for (int what : new int[] {LEAST, -1, 7, MOST}) {
            calls.add(new Call("key(" + what + ", 0)", x -> x.key(what, 0), BAD));
        }
        for (int what = 0; what < 7; what++) {
            int part = what;
            int length = what < 2 ? size : half;
            for (int i : new int[] {LEAST, -1, length, MOST}) {
                calls.add(new Call("key(" + part + ", " + i + ")", x -> x.key(part, i), BAD));
            }
            for (int i : new int[] {0, length - 1}) {
                if (!way.hasKey) {
                    calls.add(new Call("key(" + part + ", " + i + ")", x -> x.key(part, i), NO));
                }
            }
        }
        for (int what : new int[] {LEAST, -1, 8, MOST}) {
            calls.add(new Call("count(" + what + ")", x -> x.count(what), BAD));
        }
    }

    private void addMessageCalls(List<Call> calls, int bytes) {
        for (int n : new int[] {LEAST, -1, 0, 9, MOST}) {
            calls.add(new Call("feed(1, " + n + ")", x -> x.feed(1, n), BAD));
        }
        for (int n = Math.max(1, 301 - bytes); n <= 8; n++) {
            int tooMany = n;
            calls.add(new Call("feed(1, " + n + ")", x -> x.feed(1, tooMany), FULL));
        }
        for (int n : new int[] {LEAST, -1, bytes + 1, MOST}) {
            calls.add(new Call("cut(" + n + ")", x -> x.cut(n), BAD));
        }
        for (int i : new int[] {LEAST, -1, 32, MOST}) {
            calls.add(new Call("hash(" + i + ")", x -> x.hash(i), BAD));
        }
        for (int i : new int[] {LEAST, -1, size, MOST}) {
            calls.add(new Call("encoded(" + i + ")", x -> x.encoded(i), BAD));
        }
    }

    private void addRegisterCalls(List<Call> calls) {
        for (int i : new int[] {LEAST, -1, size, MOST}) {
            calls.add(new Call("get(" + i + ")", x -> x.get(i), BAD));
            calls.add(new Call("set(" + i + ", 1)", x -> x.set(i, 1), BAD));
            calls.add(new Call("set(" + i + ", -1)", x -> x.set(i, -1), BAD));
        }
        for (int v : new int[] {LEAST, -1, 256, MOST}) {
            calls.add(new Call("set(0, " + v + ")", x -> x.set(0, v), BAD));
            calls.add(new Call("set(" + (size - 1) + ", " + v + ")", x -> x.set(size - 1, v), BAD));
        }
    }

    /** What the calls that follow answer: it shows the draw, the search and the words as well. */
    private static String story(SignHouse x) {
        StringBuilder told = new StringBuilder();
        long[] answers = {
            x.seed(9), x.power(true), x.digest(), x.power(false), x.digest(), x.search(3), x.count(3), x.digest(),
            x.feed(3, 1), x.hash(0), x.sign(), x.digest(), x.verify(), x.search(60), x.digest(), x.cut(0), x.hash(0),
            x.verify(), x.encode(), x.digest(), x.forget(), x.seed(4), x.search(5), x.digest()
        };
        for (long answer : answers) {
            told.append(answer).append(' ');
        }
        return told.toString();
    }
}
