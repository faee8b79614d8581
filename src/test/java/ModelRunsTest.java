import java.util.Random;

/** Random runs of calls, each answer compared with the model's: the same runs every time. */
final class ModelRunsTest {
    private static final int[] ODD_INTS = {
        Integer.MIN_VALUE, -1000, -2, -1, 0, 1, 2, 7, 8, 9, 31, 32, 61, 62, 63, 80, 255, 256, Integer.MAX_VALUE
    };
    /** Of the 512 that an object is used for, the comparison at the end needs some fifty. */
    private static final int CALLS = 460;
    private final Checks checks = new Checks();
    private final Random random = new Random(20261119);
    private SignHouse house;
    private Model model;
    private String at;

    public static void main(String[] args) {
        ModelRunsTest test = new ModelRunsTest();
        for (int run = 0; run < 150; run++) {
            test.run(run);
        }
        test.checks.end("ModelRunsTest");
    }

    private void run(int run) {
        int half = run % 12 == 11 ? someInt(100) : 31 + run % 10;
        int rounds = run % 7 == 6 ? someInt(20) : 1 + random.nextInt(8);
        house = new SignHouse(half, rounds);
        model = new Model(half, rounds);
        at = "run " + run + " (" + half + ", " + rounds + ") ";
        boolean isLong = run / 10 % 2 == 1;
        if (isLong) {
            feedMuch();
        }
        for (int i = 0; i < (isLong ? CALLS - 36 : CALLS); i++) {
            at = "run " + run + " (" + half + ", " + rounds + ") call " + i + " ";
            if (run % 3 == 0) {
                anyCall();
            } else {
                callThatLeadsToKeys(i);
            }
        }
        compareAll();
    }

    /** Seeds and searches until there is a key, then the dear calls come often. */
    private void callThatLeadsToKeys(int i) {
        if (model.words.isEmpty()) {
            seed();
        } else if (model.parts == null) {
            checks.due(at + "search", house.search(60), model.search(60));
        } else if (random.nextInt(60) == 0) {
            forget();
        } else if (random.nextInt(3) == 0) {
            dearCall();
        } else {
            anyCallButForget();
        }
    }

    private void dearCall() {
        switch (random.nextInt(6)) {
            case 0: checks.due(at + "sign", house.sign(), model.sign()); break;
            case 1: checks.due(at + "verify", house.verify(), model.verify()); break;
            case 2: power(random.nextBoolean()); break;
            case 3: checks.due(at + "encode", house.encode(), model.encode()); break;
            case 4: digest(); break;
            default: randomRegister(); break;
        }
    }

    private void anyCall() {
        if (random.nextInt(40) == 0) {
            forget();
        } else {
            anyCallButForget();
        }
    }

    private void anyCallButForget() {
        int a = someInt(90);
        int b = someInt(260);
        switch (random.nextInt(16)) {
            case 0: seed(); break;
            case 1: checks.due(at + "search " + a, house.search(a), model.search(a)); break;
            case 2:
                int what = someInt(8);
                checks.due(at + "key " + what + " " + a, house.key(what, a), model.key(what, a));
                break;
            case 3:
                int which = someInt(10);
                checks.due(at + "count " + which, house.count(which), model.count(which));
                break;
            case 4: case 5: feed(); break;
            case 6: cut(); break;
            case 7: checks.due(at + "hash " + a, house.hash(a), model.hash(a)); break;
            case 8: checks.due(at + "encoded " + a, house.encoded(a), model.encoded(a)); break;
            case 9: checks.due(at + "set " + a + " " + b, house.set(a, b), model.set(a, b)); break;
            case 10: case 11: checks.due(at + "get " + a, house.get(a), model.get(a)); break;
            default: dearCall(); break;
        }
    }

    private int someInt(int below) {
        return random.nextInt(5) == 0 ? ODD_INTS[random.nextInt(ODD_INTS.length)] : random.nextInt(below);
    }

    private void seed() {
        int word = random.nextInt(4) == 0 ? someInt(10) : random.nextInt();
        checks.due(at + "seed " + word, house.seed(word), model.seed(word));
    }

    private void forget() {
        checks.due(at + "forget", house.forget(), model.forget());
    }

    private void feed() {
        long w = random.nextLong();
        int n = random.nextInt(4) == 0 ? someInt(10) : 1 + random.nextInt(8);
        checks.due(at + "feed " + w + " " + n, house.feed(w, n), model.feed(w, n));
    }

    /** Mostly a few bytes go, so that messages grow. */
    private void cut() {
        int n = random.nextInt(8) == 0 ? someInt(300) : model.message.length - random.nextInt(5);
        checks.due(at + "cut " + n, house.cut(n), model.cut(n));
    }

    /** Half of the runs begin with a message of nearly 300 bytes. */
    private void feedMuch() {
        for (int i = 0; i < 36; i++) {
            long w = random.nextLong();
            checks.due(at + "feed " + w, house.feed(w, 8), model.feed(w, 8));
        }
    }

    private void power(boolean byPublic) {
        checks.due(at + "power " + byPublic, house.power(byPublic), model.power(byPublic));
    }

    private void digest() {
        checks.due(at + "digest", house.digest(), model.digest());
    }

    private void randomRegister() {
        int place = random.nextInt(model.size);
        int v = random.nextInt(256);
        checks.due(at + "set " + place + " " + v, house.set(place, v), model.set(place, v));
    }

    /** The digest has every byte of the register and of the key, and the counts. */
    private void compareAll() {
        digest();
        for (int i = 0; i < 32; i++) {
            checks.due(at + "hash " + i, house.hash(i), model.hash(i));
        }
        for (int what = 0; what < 8; what++) {
            checks.due(at + "count " + what, house.count(what), model.count(what));
        }
    }
}
