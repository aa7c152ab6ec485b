import java.util.function.IntUnaryOperator;

/** What the tests share: the object that is tested, ways to bring it into a state, and ways to look at all of it. */
abstract class Scene {
    static final int NO_SUCH = -1, BAD_VALUE = -2, BAD_TEXT = -3, TOO_MANY = -4, NOT_POSSIBLE = -5, NONE = -6;
    static final int CUT = 0, THRESHOLD = 1, SWING = 2, GATE = 3, COST = 4;
    static final int LEAST = Integer.MIN_VALUE, MOST = Integer.MAX_VALUE;

    static final Check CHECK = new Check();
    static SwingUnits x;

    static void fresh() {
        x = new SwingUnits();
    }

    /** Two holders with 6000 and 4000 new units, 1000000 in cash, a middle price of 100000, day 1; 3 changes. */
    static void withUnits() {
        fresh();
        x.buy(0, 600000, 0);
        x.buy(1, 400000, 0);
        x.endDay();
    }

    /** The same, and all units are old ones; 4 changes. */
    static void withOldUnits() {
        withUnits();
        x.pay();
    }

    /** 10000 old units, and 25000 new ones of holder 2, each with 100000 for evening; 200000 is the middle price. */
    static void withMuchEvening() {
        withOldUnits();
        x.set(THRESHOLD, 1000);
        x.set(SWING, 0);
        x.income(1000000);
        for (int i = 0; i < 5; i++) {
            x.buy(2, 1000000, 0);
        }
        x.endDay();
        due("count(5)", x.count(5), 25000);
        due("count(7)", x.count(7), 2500000);
    }

    /** 100 units, so many lots, no cash, the highest cost. */
    static void withLots(int quote, int lots) {
        fresh();
        x.buy(0, 10000, 0);
        x.endDay();
        x.set(COST, 0);
        x.quote(quote);
        x.trade(lots);
        x.set(COST, 50);
        x.set(GATE, 1000);
        due("count(0)", x.count(0), 0);
    }

    /** Two holders with 6000 and 4000 units, 100 lots at 1 and no cash: 100 is the value, 10 the middle price; no cost. */
    static void withPennies() {
        withUnits();
        x.set(COST, 0);
        x.quote(10000);
        x.trade(100);
        x.quote(1);
    }

    /** The same behind a day on which holder 2 got 999990000 units: 1000000000 in issue, still 10 the middle price. */
    static void withMostUnits() {
        withPennies();
        for (int i = 0; i < 9; i++) {
            x.buy(2, 1000000, 0);
        }
        x.buy(2, 999900, 0);
        x.endDay();
        due("count(4)", x.count(4), 1000000000);
        due("price(0)", x.price(0), 10);
    }

    /** Something of all that there is, by 5 changes; the same is saved in slot 1. */
    static void withEverything() {
        fresh();
        write("b0:600000;b1:400000;d;p;i20000;b2:60000;b2:5;b3:200;b4:300;d");
        x.carryOut();
        x.set(COST, 0);
        x.trade(1000);
        // 80500 are left in cash: lots are sold for those who leave
        write("l0:1000;b5:5000;b5:5;d;l0:2000;b4:7@23");
        x.carryOut();
        x.inKind(1, 1000);
        x.save(1);
    }

    static void write(String text) {
        for (int from = 0; from < text.length(); from += 8) {
            x.put(packed(text.substring(from, Math.min(from + 8, text.length()))));
        }
    }

    static long packed(String text) {
        long packed = 0;
        for (int i = 0; i < text.length(); i++) {
            packed = packed << 8 | text.charAt(i);
        }
        return packed;
    }

    static void due(String call, long got, long want) {
        CHECK.due(call, got, want);
    }

    static void dueBad(String call, IntUnaryOperator of, int... values) {
        for (int value : values) {
            due(call + " of " + value, of.applyAsInt(value), BAD_VALUE);
        }
    }

    static void dueOrder(int kind, int order, int holder, int size, int day) {
        String name = "order(" + kind + ", " + order + ", ";
        due(name + "0)", x.order(kind, order, 0), holder);
        due(name + "1)", x.order(kind, order, 1), size);
        due(name + "2)", x.order(kind, order, 2), day);
    }

    static void dueDay(int made, int left, int sold, int swung, int waiting, int givenBack) {
        int[] want = {made, left, sold, swung, waiting, givenBack};
        for (int what = 0; what < want.length; what++) {
            due("lastDay(" + what + ")", x.lastDay(what), want[what]);
        }
    }

    /** The state without the pad, the history and the slots, by some hundred calls. */
    static String state() {
        StringBuilder all = new StringBuilder();
        for (int what = 0; what < 17; what++) {
            all.append(x.count(what)).append(' ');
        }
        for (int holder = 0; holder < 6; holder++) {
            for (int what = 0; what < 9; what++) {
                all.append(x.ofHolder(holder, what)).append(' ');
            }
        }
        for (int order = 0; order < 3; order++) {
            for (int what = 0; what < 3; what++) {
                all.append(x.order(0, order, what)).append(' ').append(x.order(1, order, what)).append(' ');
            }
        }
        for (int what = 0; what < 6; what++) {
            all.append(x.lastDay(what)).append(' ').append(what < 4 ? x.price(what) : 0).append(' ');
        }
        return all.toString();
    }

    /** The state, the pad's length and fault, and how many changes can be undone. */
    static String all() {
        return state() + x.count(17) + ' ' + x.count(18) + ' ' + x.fault();
    }
}
