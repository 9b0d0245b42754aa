import java.util.Random;
import java.util.function.IntSupplier;

/** Calls WaveletStream and Reference alike, and compares every answer. */
final class ReferenceTests {
    private static final int THROWS = Integer.MIN_VALUE;

    private final Check check;
    private final Random random;
    private WaveletStream one;
    private Reference other;

    private ReferenceTests(Check check, long seed) {
        this.check = check;
        this.random = new Random(seed);
    }

    static void run(Check check, int rounds) {
        ReferenceTests tests = new ReferenceTests(check, 20261119L);
        for (int round = 0; round < rounds; round++) {
            check.subject("against the reference, round " + round);
            tests.round();
        }
    }

    private static int answer(IntSupplier call) {
        try {
            return call.getAsInt();
        } catch (IllegalArgumentException e) {
            return THROWS;
        }
    }

    private void same(String what, IntSupplier a, IntSupplier b) {
        check.equal(what, answer(a), answer(b));
    }

    private int anyOf(int low, int high) {
        return low + random.nextInt(high - low + 1);
    }

    private void round() {
        one = new WaveletStream();
        other = new Reference();
        for (int picture = 0; picture < 2; picture++) {
            drawPicture();
            int levels = anyOf(0, 3);
            int layers = anyOf(1, 3);
            same("encode", () -> one.encode(levels, layers), () -> other.encode(levels, layers));
            compareEncoding();
            for (int n = 0; n <= other.stream.size() + 1; n++) {
                compareDecoding(n);
            }
            for (int k = 0; k < 40; k++) {
                if (k % 4 == 3) {
                    pokeCarry();
                } else {
                    poke();
                }
                compareDecoding(random.nextInt(4) > 0 ? other.stream.size() : anyOf(3, other.stream.size() + 1));
            }
        }
    }

    private void drawPicture() {
        int width = anyOf(1, 8);
        int height = anyOf(1, 8);
        one.picture(width, height);
        other.picture(width, height);
        int manner = anyOf(0, 9);
        int base = anyOf(0, 255);
        int acrossStep = anyOf(-40, 40);
        int downStep = anyOf(-40, 40);
        for (int y = 0; y < height; y++) {
            for (int x = 0; x < width; x++) {
                int v = pixelBy(manner, base + x * acrossStep + y * downStep, base, x, y);
                one.paint(x, y, v);
                other.paint(x, y, v);
            }
        }
    }

    private int pixelBy(int manner, int slope, int base, int x, int y) {
        switch (manner) {
            case 0:
                return anyOf(0, 255);
            case 1:
                return random.nextBoolean() ? 255 : 0;
            case 2:
                return Math.max(0, Math.min(255, slope));
            case 3:
                return slope & 255;
            case 4:
                return random.nextInt(10) == 0 ? anyOf(0, 255) : base;
            case 5:
                return (x + y) % 2 == 0 ? 255 : random.nextInt(30);
            case 6:
                return (x + y) % 2 == 0 ? 128 + anyOf(60, 127) : 128 + anyOf(-2, 2);
            case 7:
                return base % 2 == 0 ? 0 : 128 + (1 << base % 7);
            case 8:
                return x % 2 == 0 && y % 2 == 0 ? anyOf(0, 255) : 128;
            default:
                return Math.max(0, Math.min(255, base + anyOf(-3, 3)));
        }
    }

    private void compareEncoding() {
        for (int i = -1; i <= other.stream.size(); i++) {
            int at = i;
            same("stream(" + i + ")", () -> one.stream(at), () -> other.stream(at));
        }
        for (int i = -1; i <= 10; i++) {
            int b = i;
            for (int k = -1; k <= 5; k++) {
                int what = k;
                same("band(" + b + ", " + what + ")", () -> one.band(b, what), () -> other.band(b, what));
            }
            for (int k = -1; k <= 8; k++) {
                for (int j = -1; j <= 8; j++) {
                    int x = k;
                    int y = j;
                    same("number(" + b + ", " + x + ", " + y + ")",
                        () -> one.number(b, x, y), () -> other.number(b, x, y));
                }
            }
            for (int k = -1; k <= Math.max(0, other.band(b, 4)); k++) {
                int at = k;
                same("codeword(" + b + ", " + at + ")", () -> one.codeword(b, at), () -> other.codeword(b, at));
            }
            for (int k = -1; k <= Math.max(0, other.band(b, 3)) + 1; k++) {
                int passes = k;
                same("least(" + b + ", " + passes + ")", () -> one.least(b, passes), () -> other.least(b, passes));
            }
        }
    }

    private void compareDecoding(int n) {
        same("decode(" + n + ")", () -> one.decode(n), () -> other.decode(n));
        for (int y = -1; y <= 8; y++) {
            for (int x = -1; x <= 8; x++) {
                int px = x;
                int py = y;
                same("decoded(" + x + ", " + y + ")", () -> one.decoded(px, py), () -> other.decoded(px, py));
            }
        }
        for (int i = -1; i <= 10; i++) {
            int b = i;
            same("taken(" + b + ")", () -> one.taken(b), () -> other.taken(b));
        }
        same("difference()", () -> one.difference(), () -> other.difference());
    }

    private void poke() {
        int size = other.stream.size();
        int i = random.nextInt(8) == 0 ? anyOf(0, 3) : anyOf(4, size - 1);
        int manner = random.nextInt(5);
        int b = manner == 0 ? 255 : manner == 1 ? anyOf(0x80, 0x8f) : manner == 2 ? other.stream(i) ^ 1 << anyOf(0, 7)
            : anyOf(0, i < 4 ? 9 : 255);
        check.that("poke(" + i + ", " + b + ")", one.poke(i, b) == other.poke(i, b));
    }

    /** Two bytes that bring in more than the coder could have told. */
    private void pokeCarry() {
        int i = anyOf(4, other.stream.size() - 1);
        int high = anyOf(0x80, 0x91);
        for (int k = 0; k < 2; k++) {
            int at = i + k;
            int b = k == 0 ? 255 : high;
            check.that("poke(" + at + ", " + b + ")", one.poke(at, b) == other.poke(at, b));
        }
    }

    public static void main(String[] args) {
        Check check = new Check();
        run(check, Integer.parseInt(args[0]));
        System.out.println(check.sum());
    }
}
