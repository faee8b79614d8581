import java.math.BigInteger;
import java.security.KeyFactory;
import java.security.PrivateKey;
import java.security.PublicKey;
import java.security.Signature;
import java.security.spec.RSAPrivateCrtKeySpec;
import java.security.spec.RSAPublicKeySpec;
import java.util.Arrays;

/**
 * "SHA-256, as published: FIPS 180-4", "(RFC 8017, 9.2)": the Java library, which was told nothing of the
 * document, signs and verifies the same with the house's keys. It takes no n of less than 64 bytes.
 */
final class LibraryTest {
    private static final String NAME = "SHA256withRSA";
    private static final int[] LENGTHS = {0, 1, 3, 55, 56, 64, 119, 120, 300};

    private final Checks checks = new Checks();

    public static void main(String[] args) throws Exception {
        LibraryTest test = new LibraryTest();
        for (int half = 32; half <= 40; half++) {
            test.keyOf(half);
        }
        test.checks.end("LibraryTest");
    }

    private void keyOf(int half) throws Exception {
        SignHouse x = Houses.withKey(half, 8, half, -half);
        BigInteger[] parts = new BigInteger[7];
        for (int part = 0; part < parts.length; part++) {
            parts[part] = Houses.keyNumber(x, part);
        }
        KeyFactory factory = KeyFactory.getInstance("RSA");
        PublicKey open = factory.generatePublic(new RSAPublicKeySpec(parts[0], Model.E));
        PrivateKey secret = factory.generatePrivate(new RSAPrivateCrtKeySpec(
            parts[0], Model.E, parts[1], parts[2], parts[3], parts[4], parts[5], parts[6]));
        for (int length : LENGTHS) {
            message(Houses.withKey(half, 8, half, -half), open, secret, length);
        }
    }

    private void message(SignHouse x, PublicKey open, PrivateKey secret, int length) throws Exception {
        String at = length + " bytes, HALF of " + x.count(0);
        byte[] bytes = new byte[length];
        Arrays.fill(bytes, (byte) 0x5A);
        Houses.feedMany(x, length);
        checks.due("sign " + at, x.sign(), 1);
        byte[] ours = new byte[2 * x.count(0)];
        for (int i = 0; i < ours.length; i++) {
            ours[i] = (byte) x.get(i);
        }
        Signature signer = Signature.getInstance(NAME);
        signer.initSign(secret);
        signer.update(bytes);
        byte[] theirs = signer.sign();
        checks.holds("the library signs the same, " + at, Arrays.equals(ours, theirs));
        Signature verifier = Signature.getInstance(NAME);
        verifier.initVerify(open);
        verifier.update(bytes);
        checks.holds("the library verifies it, " + at, verifier.verify(ours));
        Houses.putRegister(x, new BigInteger(1, theirs));
        checks.due("the house verifies the library's, " + at, x.verify(), 1);
    }
}
