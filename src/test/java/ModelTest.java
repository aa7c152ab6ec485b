import java.util.Random;

/** Random runs of calls, each answered by the class and by the model; all that there is is compared on the way. */
public final class ModelTest {
    private static final int RUNS = 8000, CALLS = 512;

    private final Check check = new Check();
    private final Random random;
    private final int style;
    private final SwingUnits units = new SwingUnits();
    private final Model model = new Model();

    private ModelTest(long seed) {
        random = new Random(seed);
        style = random.nextInt(6);
        check.part("seed " + seed);
    }

    public static void main(String[] args) {
        Check.watch();
        int wrong = 0;
        for (long seed = 0; seed < RUNS && wrong == 0; seed++) {
            ModelTest test = new ModelTest(seed);
            test.run();
            wrong += test.check.wrong();
        }
        System.out.println("ModelTest: " + RUNS + " runs of " + CALLS + " calls, " + wrong + " wrong");
        if (wrong != 0) {
            System.exit(1);
        }
    }

    private void run() {
        while (check.made() < CALLS && check.wrong() == 0) {
            call();
            look();
        }
    }

    private void due(String call, long got, long want) {
        // Nothing is promised behind the last call.
        if (check.made() < CALLS) {
            check.due(call, got, want);
        }
    }

    private int pick(int... values) {
        return values[random.nextInt(values.length)];
    }

    private int holder() {
        return random.nextInt(40) == 0 ? pick(-1, 6, Integer.MIN_VALUE, Integer.MAX_VALUE) : random.nextInt(style < 2 ? 3 : 6);
    }

    private int hour() {
        return random.nextInt(30) == 0 ? pick(-1, 24, 1000) : random.nextInt(4) == 0 ? random.nextInt(24) : 0;
    }

    private int amount() {
        switch (random.nextInt(8)) {
            case 0: return pick(0, 1, 1000000, 1000001, -5, Integer.MIN_VALUE, Integer.MAX_VALUE, 2, 99, 100, 101);
            case 1: return 1 + random.nextInt(300);
            case 2: return 900000 + random.nextInt(100001);
            default: return 1 + random.nextInt(style % 2 == 0 ? 200000 : 5000);
        }
    }

    private int unitsToLeave(int holder) {
        int free = holder < 0 || holder > 5 ? 5 : model.ofHolder(holder, 0) - model.ofHolder(holder, 3);
        switch (random.nextInt(8)) {
            case 0: return pick(0, -1, 1, 2, free, free + 1, Integer.MAX_VALUE, Integer.MIN_VALUE);
            case 1: return free;
            default: return free > 0 ? 1 + random.nextInt(Math.max(1, free / (1 + random.nextInt(6)))) : 1;
        }
    }

    private int quoteValue() {
        return pick(0, 1, 2, 3, 10000, 10001, -1, 999, 1001, 1 + random.nextInt(10000), 900 + random.nextInt(200), 1 + random.nextInt(30));
    }

    private void call() {
        int h = holder();
        int a = amount();
        int hour = hour();
        int n;
        switch (random.nextInt(40)) {
            case 0: case 1: case 2: case 3: case 4: case 5:
                due("buy(" + h + ", " + a + ", " + hour + ")", units.buy(h, a, hour), model.buy(h, a, hour));
                return;
            case 6: case 7: case 8: case 9: case 10: case 11: case 12:
                n = unitsToLeave(h);
                due("leave(" + h + ", " + n + ", " + hour + ")", units.leave(h, n, hour), model.leave(h, n, hour));
                return;
            case 13:
                n = unitsToLeave(h);
                due("inKind(" + h + ", " + n + ")", units.inKind(h, n), model.inKind(h, n));
                return;
            case 14: case 15: case 16: case 17: case 18: case 19:
                due("endDay()", units.endDay(), model.endDay());
                return;
            case 20: case 21:
                n = quoteValue();
                due("quote(" + n + ")", units.quote(n), model.quote(n));
                return;
            case 22: case 23: case 24:
                n = lotsToTrade();
                due("trade(" + n + ")", units.trade(n), model.trade(n));
                return;
            case 25: case 26:
                due("income(" + a + ")", units.income(a), model.income(a));
                return;
            case 27:
                due("pay()", units.pay(), model.pay());
                return;
            case 28: case 29:
                changeSetting();
                return;
            case 30: case 31:
                writeText();
                return;
            case 32:
                due("undo()", units.undo(), model.undo());
                return;
            case 33:
                n = pick(0, 1, 0, 1, -1, 2);
                due("save(" + n + ")", units.save(n), model.save(n));
                return;
            case 34:
                n = pick(0, 1, 0, 1, -1, 2);
                due("restore(" + n + ")", units.restore(n), model.restore(n));
                return;
            case 35: case 36:
                due("fairSwing()", units.fairSwing(), model.fairSwing());
                return;
            case 37: case 38:
                due("exitIn(" + h + ")", units.exitIn(h), model.exitIn(h));
                return;
            default:
                putAnything();
        }
    }

    private int lotsToTrade() {
        int lots = model.count(1);
        long free = model.count(0) - model.count(6);
        long cost = model.count(2) - Math.floorDiv(-model.count(2) * model.count(16), 1000);
        int most = (int) Math.min(1000, free / Math.max(1, cost));
        return pick(0, 1, -1, 1001, -1001, 1000, -1000, -lots, -lots - 1, most, most + 1, most / 2, most / 2, most / 3,
            -(lots / 2), 1000 - lots, 1001 - lots, Integer.MIN_VALUE, Integer.MAX_VALUE);
    }

    private void changeSetting() {
        int setting = random.nextInt(20) == 0 ? pick(-1, 5, Integer.MAX_VALUE, Integer.MIN_VALUE) : random.nextInt(5);
        int[] most = {23, 1000, 100, 1000, 50};
        int top = setting < 0 || setting > 4 ? 5 : most[setting];
        int value = pick(-1, 0, top, top + 1, random.nextInt(top + 1), random.nextInt(top + 1), top / 10, top / 3);
        due("set(" + setting + ", " + value + ")", units.set(setting, value), model.set(setting, value));
    }

    private String order() {
        int h = random.nextInt(6);
        String at = random.nextInt(3) == 0 ? "@" + random.nextInt(24) : "";
        switch (random.nextInt(10)) {
            case 0: case 1: case 2: return "b" + h + ":" + Math.min(1000000, Math.max(0, amount())) + at;
            case 3: case 4: case 5: return "l" + h + ":" + Math.min(1000000, Math.max(0, unitsToLeave(h))) + at;
            case 6: return "q" + Math.max(0, quoteValue());
            case 7: return "i" + Math.min(1000000, Math.max(0, amount()));
            case 8: return "p";
            default: return "d";
        }
    }

    private String text() {
        StringBuilder text = new StringBuilder(order());
        while (random.nextInt(6) != 0 && text.length() < 70) {
            text.append(';').append(order());
        }
        if (random.nextInt(3) == 0) {
            spoil(text);
        }
        return text.toString();
    }

    private void spoil(StringBuilder text) {
        String signs = "bldpqi:;@0123456789x!~";
        char sign = signs.charAt(random.nextInt(signs.length()));
        int at = random.nextInt(text.length());
        switch (random.nextInt(4)) {
            case 0: text.setCharAt(at, sign); break;
            case 1: text.insert(at, sign); break;
            case 2: text.setLength(at); break;
            default: text.append(sign);
        }
    }

    private void writeText() {
        if (random.nextInt(4) != 0) {
            due("wipe()", units.wipe(), model.wipe());
        }
        String text = text();
        for (int from = 0; from < text.length(); ) {
            int to = Math.min(text.length(), from + 1 + random.nextInt(8));
            long packed = 0;
            for (int i = from; i < to; i++) {
                packed = packed << 8 | text.charAt(i);
            }
            due("put " + text.substring(from, to), units.put(packed), model.put(packed));
            from = to;
        }
        due("fault() of " + text, units.fault(), model.fault());
        due("carryOut() of " + text, units.carryOut(), model.carryOut());
    }

    private void putAnything() {
        long packed = 0;
        for (int i = 0; i < 1 + random.nextInt(8); i++) {
            packed = packed << 8 | pick(33, 126, 'd', ';', '0', 'd', ';', '1', pick(32, 127, 0, 255, 128));
        }
        due("put(" + packed + ")", units.put(packed), model.put(packed));
        due("fault()", units.fault(), model.fault());
    }

    private void look() {
        int what = random.nextInt(30) == 0 ? pick(-1, 20, Integer.MAX_VALUE, Integer.MIN_VALUE) : random.nextInt(19);
        switch (random.nextInt(7)) {
            case 0: case 1:
                due("count(" + what + ")", units.count(what), model.count(what));
                return;
            case 2: case 3:
                int h = holder();
                due("ofHolder(" + h + ", " + what % 10 + ")", units.ofHolder(h, what % 10), model.ofHolder(h, what % 10));
                return;
            case 4:
                lookAtOrder(what % 4);
                return;
            case 5:
                due("lastDay(" + what % 7 + ")", units.lastDay(what % 7), model.lastDay(what % 7));
                return;
            default:
                due("price(" + what % 5 + ")", units.price(what % 5), model.price(what % 5));
        }
    }

    private void lookAtOrder(int what) {
        int kind = random.nextInt(30) == 0 ? pick(-1, 2, Integer.MAX_VALUE, Integer.MIN_VALUE) : random.nextInt(2);
        int many = model.count(kind == 0 ? 9 : 10);
        int order = random.nextInt(20) == 0 ? pick(-1, many, many + 1, 20, Integer.MAX_VALUE, Integer.MIN_VALUE) : random.nextInt(many + 1);
        due("order(" + kind + ", " + order + ", " + what + ")", units.order(kind, order, what), model.order(kind, order, what));
    }
}
