import java.lang.reflect.Constructor;
import java.lang.reflect.Field;
import java.lang.reflect.Method;
import java.math.BigInteger;
import java.util.Arrays;
import java.util.Random;

/**
 * What no seed that one could find leads to, so that the public face can't show it: rows
 * with limbs of all 0 and all 1, numbers that pass for primes and are none, one prime twice.
 */
final class RowsTest {
    private static final long[] LIMBS = {0, 1, 2, 0x7FFFFFFFL, 0x80000000L, 0xFFFFFFFEL, 0xFFFFFFFFL};

    /** Each passes for a prime by some of the bases 2 .. 19; none is a prime. */
    private static final long[] FALSE_PRIMES = {
        2047L, 1373653L, 25326001L, 3215031751L, 2152302898747L, 3474749660383L, 341550071728321L,
        2465668748791L, 750288179106901L, 7179667355042461L, 267118362607141L, 4627853036319787L,
        15276810864696481L
    };
    private final Checks checks = new Checks();
    private final Random random = new Random(7);

    public static void main(String[] args) throws Exception {
        RowsTest test = new RowsTest();
        for (int width = 1; width <= 20; width++) {
            for (int i = 0; i < 200; i++) {
                test.rows(width);
                test.modulus(width);
                test.inverseOfE(Math.max(8, width));
            }
        }
        for (int width = 2; width <= 20; width++) {
            test.greatestRows(width);
        }
        test.productsThatVanish();
        test.goodNumbers();
        test.sameNumberTwice();
        test.keysOfFalsePrimes();
        test.checks.end("RowsTest");
    }

    private long[] row(int width) {
        long[] row = new long[width];
        for (int i = 0; i < width; i++) {
            boolean edge = random.nextInt(4) > 0;
            row[i] = edge ? LIMBS[random.nextInt(LIMBS.length)] : random.nextInt() & 0xFFFFFFFFL;
        }
        return row;
    }

    private static BigInteger number(long[] row) {
        BigInteger sum = BigInteger.ZERO;
        for (int i = 0; i < row.length; i++) {
            sum = sum.add(BigInteger.valueOf(row[i]).shiftLeft(32 * i));
        }
        return sum;
    }

    private void same(String what, long[] row, BigInteger want) {
        checks.holds(what + " is " + number(row) + ", due is " + want, number(row).equals(want));
        for (long limb : row) {
            checks.holds(what + " has limbs", limb >>> 32 == 0);
        }
    }

    private static Object call(String inside, Object on, String name, Object... with) throws Exception {
        for (Method m : Class.forName("SignHouse$" + inside).getDeclaredMethods()) {
            if (m.getName().equals(name)) {
                m.setAccessible(true);
                return m.invoke(on, with);
            }
        }
        throw new IllegalArgumentException(name);
    }

    private static Object make(String inside, int width) throws Exception {
        Constructor<?> c = Class.forName("SignHouse$" + inside).getDeclaredConstructor(int.class);
        c.setAccessible(true);
        return c.newInstance(width);
    }

    private void rows(int width) throws Exception {
        long[] a = row(width);
        long[] b = random.nextInt(8) == 0 ? a.clone() : row(width);
        BigInteger x = number(a), y = number(b), all = BigInteger.ONE.shiftLeft(32 * width);
        checks.due("order", Integer.signum((Integer) call("Rows", null, "order", a, b)), x.compareTo(y));
        long[] to = a.clone();
        call("Rows", null, "add", to, b);
        same("sum", to, x.add(y).mod(all));
        boolean below = (Boolean) call("Rows", null, "subtract", to, a, b);
        same("difference", to, x.subtract(y).mod(all));
        checks.holds("borrowed", below == (x.compareTo(y) < 0));
        long[] product = row(2 * width);
        call("Rows", null, "multiply", product, a, b);
        same("product", product, x.multiply(y));
        to = a.clone();
        call("Rows", null, "lessen", to, 2L);
        same("lessened", to, x.subtract(BigInteger.TWO).mod(all));
        checks.due("bits", (Integer) call("Rows", null, "bitCount", a), x.bitLength());
        int[] divisors = {3, 251, 65537, Integer.MAX_VALUE};
        for (int divisor : divisors) {
            checks.due("rest", (Long) call("Rows", null, "remainder", a, divisor), x.mod(BigInteger.valueOf(divisor)).longValue());
        }
        if (x.signum() != 0) {
            int halvings = (Integer) call("Rows", null, "halveUntilOdd", a);
            checks.due("halvings", halvings, x.getLowestSetBit());
            same("odd part", a, x.shiftRight(halvings));
        }
    }

    private void modulus(int width) throws Exception {
        long[] m = row(width);
        m[0] |= 1;
        m[width - 1] |= 2;
        BigInteger by = number(m);
        Object modulus = make("Modulus", width);
        call("Modulus", modulus, "choose", (Object) m);
        long[] wide = row(2 * width);
        long[] to = row(width);
        call("Modulus", modulus, "reduce", to, wide);
        same("remainder", to, number(wide).mod(by));
        long[] a = to.clone();
        call("Modulus", modulus, "reduce", to, row(width));
        long[] b = random.nextInt(5) == 0 ? a : to.clone();
        BigInteger x = number(a), y = number(b);
        call("Modulus", modulus, "times", to, a, b);
        same("modular product", to, x.multiply(y).mod(by));
        if (random.nextInt(10) == 0) {
            long[] exponent = row(1 + random.nextInt(width));
            call("Modulus", modulus, "raise", to, a, exponent);
            same("modular power", to, x.modPow(number(exponent), by));
        }
    }

    private void inverseOfE(int width) throws Exception {
        BigInteger e = BigInteger.valueOf(65537);
        long[] by = row(width);
        if (number(by).mod(e).signum() == 0) {
            return;
        }
        long[] to = row(width);
        call("KeyRows", make("KeyRows", (width + 1) / 2), "invertE", to, by);
        BigInteger want = e.modInverse(number(by));
        if (number(by).signum() > 0) {
            same("inverse", to, want);
        }
    }

    /** Only by moduli of nearly all 1 does a sum run over into the limb above the highest but one. */
    private void greatestRows(int width) throws Exception {
        long[] m = new long[width];
        Arrays.fill(m, 0xFFFFFFFFL);
        Object modulus = make("Modulus", width);
        call("Modulus", modulus, "choose", (Object) m);
        for (int less = 1; less <= 9; less++) {
            long[] a = m.clone();
            a[0] -= less;
            long[] to = row(width);
            call("Modulus", modulus, "times", to, a, a);
            same("product of the greatest", to, BigInteger.valueOf(less * less));
            long[] third = {3};
            call("Modulus", modulus, "raise", to, a, third);
            same("power of the greatest", to, number(m).subtract(BigInteger.valueOf(less * less * less)));
        }
    }

    private void productsThatVanish() throws Exception {
        for (int i = 0; i < 50; i++) {
            long[] p = {random.nextInt() & 0xFFFFFFFFL | 3, 0};
            long[] q = {random.nextInt() & 0xFFFFFFFFL | 3, 0};
            long[] n = new long[2];
            call("Rows", null, "multiply", n, p, q);
            Object modulus = make("Modulus", 2);
            call("Modulus", modulus, "choose", (Object) n);
            long[] to = row(2);
            call("Modulus", modulus, "times", to, p, q);
            same("p q by p q", to, BigInteger.ZERO);
        }
    }

    private static Object hunt(int half, int rounds) throws Exception {
        for (Constructor<?> c : Class.forName("SignHouse$Hunt").getDeclaredConstructors()) {
            c.setAccessible(true);
            return c.newInstance(null, half, (half + 3) / 4, rounds);
        }
        throw new IllegalArgumentException("no constructor");
    }

    private static void put(Object hunt, String field, long[] value) throws Exception {
        Field f = hunt.getClass().getDeclaredField(field);
        f.setAccessible(true);
        System.arraycopy(value, 0, (long[]) f.get(hunt), 0, value.length);
    }

    private static void putNumber(Object hunt, String field, int value) throws Exception {
        Field f = hunt.getClass().getDeclaredField(field);
        f.setAccessible(true);
        f.setInt(hunt, value);
    }

    /** The ROUNDS are asked of p and of q alike. */
    private void goodNumbers() throws Exception {
        for (long falsePrime : FALSE_PRIMES) {
            BigInteger c = BigInteger.valueOf(falsePrime);
            checks.holds(c + " is no prime", !c.isProbablePrime(40));
            for (int rounds = 1; rounds <= 8; rounds++) {
                for (int found = 0; found <= 1; found++) {
                    Object hunt = hunt(31, rounds);
                    put(hunt, "candidate", new long[] {falsePrime & 0xFFFFFFFFL, falsePrime >>> 32});
                    putNumber(hunt, "primesFound", found);
                    boolean good = (Boolean) call("Hunt", hunt, "isGood");
                    checks.holds(c + " by " + rounds + " rounds", good == Model.passes(c, rounds));
                }
            }
        }
    }

    /** "it is not p (if that was found)": with every HALF and ROUNDS, soon and late in the search. */
    private void sameNumberTwice() throws Exception {
        long[] prime = {1000003L};
        for (int half = 31; half <= 40; half++) {
            for (int rounds = 1; rounds <= 8; rounds++) {
                Object hunt = hunt(half, rounds);
                call("Hunt", hunt, "begin");
                putNumber(hunt, "examined", half * rounds);
                putNumber(hunt, "undivided", half);
                put(hunt, "candidate", prime);
                put(hunt, "first", prime);
                checks.holds("a prime, p not yet found", (Boolean) call("Hunt", hunt, "isGood"));
                putNumber(hunt, "primesFound", 1);
                checks.holds("p once more", !(Boolean) call("Hunt", hunt, "isGood"));
            }
        }
    }

    private static long[] rowOf(BigInteger number, int width) {
        long[] row = new long[width];
        for (int i = 0; i < width; i++) {
            row[i] = number.shiftRight(32 * i).longValue() & 0xFFFFFFFFL;
        }
        return row;
    }

    /** "qI, what q^(p - 2) leaves by p", "m2 + h q": as told, also where p is no prime and they do not invert. */
    private void keysOfFalsePrimes() throws Exception {
        int keys = 0;
        for (long one : FALSE_PRIMES) {
            for (long other : FALSE_PRIMES) {
                if (one != other && one % 65537 != 1 && other % 65537 != 1) {
                    keyOf(BigInteger.valueOf(one), BigInteger.valueOf(other));
                    keys++;
                }
            }
        }
        checks.holds("keys of false primes", keys > 100);
    }

    private void keyOf(BigInteger first, BigInteger second) throws Exception {
        BigInteger p = first.max(second), q = first.min(second), e = BigInteger.valueOf(65537), n = p.multiply(q);
        BigInteger pLess = p.subtract(BigInteger.ONE), qLess = q.subtract(BigInteger.ONE);
        BigInteger[] parts = {
            n, e.modInverse(pLess.multiply(qLess)), p, q, e.modInverse(pLess), e.modInverse(qLess),
            q.modPow(p.subtract(BigInteger.TWO), p)
        };
        Object keyRows = make("KeyRows", 2);
        call("KeyRows", keyRows, "make", rowOf(first, 2), rowOf(second, 2));
        for (int part = 0; part < parts.length; part++) {
            same("key " + part + " of " + p + ", " + q, (long[]) call("KeyRows", keyRows, "part", part), parts[part]);
        }
        for (int i = 0; i < 5; i++) {
            BigInteger m = number(row(4)).mod(n);
            BigInteger m1 = m.modPow(parts[4], p), m2 = m.modPow(parts[5], q);
            BigInteger h = parts[6].multiply(m1.subtract(m2)).mod(p);
            long[] to = row(4);
            call("KeyRows", keyRows, "makeSignature", to, rowOf(m, 4));
            same("signature by " + p + ", " + q, to, m2.add(h.multiply(q)));
            call("KeyRows", keyRows, "raisePublic", to, rowOf(m, 4));
            same("power by e, of " + p + ", " + q, to, m.modPow(e, n));
            call("KeyRows", keyRows, "raisePrivate", to, rowOf(m, 4));
            same("power by d, of " + p + ", " + q, to, m.modPow(parts[1], n));
        }
    }
}
