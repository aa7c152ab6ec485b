import java.util.Random;

/** No call throws or fails to end, for any arguments in any state, behind the 512th call, too. */
public final class NeverThrowsTest {
    private static final int RUNS = 150, CALLS = 3000;
    private static final int[] ODD = {0, 1, -1, 2, 5, 6, 19, 20, 21, 1000, 1001, -1000, 1000000, 1000001, 255, 256,
        Integer.MAX_VALUE, Integer.MIN_VALUE, Integer.MAX_VALUE - 1, Integer.MIN_VALUE + 1};
    private static final String SIGNS = "bldpqi;:@0123456789";

    private final Random random;
    private final SwingUnits x = new SwingUnits();

    private NeverThrowsTest(long seed) {
        random = new Random(seed);
    }

    public static void main(String[] args) {
        Check.watch();
        Check check = new Check();
        for (int seed = 0; seed < RUNS; seed++) {
            check.part("seed " + seed);
            try {
                new NeverThrowsTest(seed).run();
                check.holds("nothing is thrown", true);
            } catch (RuntimeException | Error thrown) {
                check.holds("nothing is thrown: " + thrown, false);
            }
        }
        check.end("NeverThrowsTest");
    }

    private void run() {
        for (int i = 0; i < CALLS; i++) {
            call(random.nextInt(26));
        }
    }

    /** Mostly what a call can take, now and then anything. */
    private int number(int most) {
        switch (random.nextInt(12)) {
            case 0: return ODD[random.nextInt(ODD.length)];
            case 1: return random.nextInt();
            default: return random.nextInt(most + 1);
        }
    }

    private long characters() {
        if (random.nextInt(8) == 0) {
            return random.nextLong();
        }
        long characters = 0;
        for (int i = random.nextInt(8); i >= 0; i--) {
            characters = characters << 8 | SIGNS.charAt(random.nextInt(SIGNS.length()));
        }
        return characters;
    }

    private void call(int which) {
        switch (which) {
            case 0: x.set(number(4), number(1000)); break;
            case 1: case 2: x.buy(number(5), number(1000000), number(23)); break;
            case 3: case 4: x.leave(number(5), number(5000), number(23)); break;
            case 5: x.inKind(number(5), number(100)); break;
            case 6: case 7: x.endDay(); break;
            case 8: x.quote(number(10000)); break;
            case 9: x.trade(number(1000)); break;
            case 10: x.trade(-number(1000)); break;
            case 11: x.income(number(1000000)); break;
            case 12: x.pay(); break;
            case 13: x.ofHolder(number(5), number(8)); break;
            case 14: x.count(number(18)); break;
            case 15: x.order(number(1), number(20), number(2)); break;
            case 16: x.lastDay(number(5)); break;
            case 17: x.price(number(3)); break;
            case 18: x.exitIn(number(5)); break;
            case 19: x.fairSwing(); break;
            case 20: case 21: x.put(characters()); x.fault(); x.carryOut(); break;
            case 22: x.put('d'); x.carryOut(); x.wipe(); break;
            case 23: x.undo(); break;
            case 24: x.save(number(1)); break;
            default: x.restore(number(1));
        }
    }
}
