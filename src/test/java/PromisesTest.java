/** A part for each promise of the document, with answers that were worked out by hand from its words. */
public final class PromisesTest extends Scene {
    public static void main(String[] args) {
        constants();
        newObject();
        set();
        buy();
        leave();
        inKind();
        endDayPrice();
        endDayShares();
        endDayPayments();
        endDayBuyers();
        endDayIncome();
        endDayPools();
        quote();
        trade();
        income();
        pay();
        ofHolder();
        count();
        order();
        lastDay();
        price();
        exitIn();
        fairSwing();
        put();
        wipe();
        fault();
        carryOut();
        undo();
        undoEachChange();
        save();
        restore();
        CHECK.end("PromisesTest");
    }

    private static void part(String name) {
        CHECK.part(name);
        fresh();
    }

    private static void partWithUnits(String name) {
        CHECK.part(name);
        withUnits();
    }

    private static void partWithOldUnits(String name) {
        CHECK.part(name);
        withOldUnits();
    }

    private static void partWithLots(String name, int quote, int lots) {
        CHECK.part(name);
        withLots(quote, lots);
    }

    private static void constants() {
        part("constants");
        due("NO_SUCH", SwingUnits.NO_SUCH, -1);
        due("BAD_VALUE", SwingUnits.BAD_VALUE, -2);
        due("BAD_TEXT", SwingUnits.BAD_TEXT, -3);
        due("TOO_MANY", SwingUnits.TOO_MANY, -4);
        due("NOT_POSSIBLE", SwingUnits.NOT_POSSIBLE, -5);
        due("NONE", SwingUnits.NONE, -6);
        due("CUT", SwingUnits.CUT, 0);
        due("THRESHOLD", SwingUnits.THRESHOLD, 1);
        due("SWING", SwingUnits.SWING, 2);
        due("GATE", SwingUnits.GATE, 3);
        due("COST", SwingUnits.COST, 4);
    }

    private static void newObject() {
        part("promise 1, a new object");
        int[] counts = {0, 0, 1000, 0, 0, 0, 0, 0, 0, 0, 0, 0, 12, 50, 10, 100, 5, 0, 0};
        for (int what = 0; what < counts.length; what++) {
            due("count(" + what + ")", x.count(what), counts[what]);
        }
        for (int holder = 0; holder < 6; holder++) {
            for (int what = 0; what < 9; what++) {
                due("ofHolder(" + holder + ", " + what + ")", x.ofHolder(holder, what), 0);
            }
            due("exitIn(" + holder + ")", x.exitIn(holder), 0);
        }
        for (int what = 0; what < 6; what++) {
            due("lastDay(" + what + ")", x.lastDay(what), NONE);
        }
        due("price(0)", x.price(0), 100000);
        due("price(1)", x.price(1), 100000);
        due("price(2)", x.price(2), NONE);
        due("price(3)", x.price(3), 0);
        due("order(0, 0, 0)", x.order(0, 0, 0), NO_SUCH);
        due("order(1, 0, 0)", x.order(1, 0, 0), NO_SUCH);
        due("fault()", x.fault(), 0);
        due("undo()", x.undo(), NOT_POSSIBLE);
        due("restore(0)", x.restore(0), NOT_POSSIBLE);
        due("restore(1)", x.restore(1), NOT_POSSIBLE);
    }

    private static void set() {
        part("promise 2, set");
        int[] first = {12, 50, 10, 100, 5};
        int[] greatest = {23, 1000, 100, 1000, 50};
        for (int setting = 0; setting < 5; setting++) {
            String name = "set(" + setting + ", ";
            due(name + "-1)", x.set(setting, -1), BAD_VALUE);
            due(name + "greatest + 1)", x.set(setting, greatest[setting] + 1), BAD_VALUE);
            due(name + "LEAST)", x.set(setting, LEAST), BAD_VALUE);
            due(name + "MOST)", x.set(setting, MOST), BAD_VALUE);
            due("setting", x.count(12 + setting), first[setting]);
            due(name + "greatest)", x.set(setting, greatest[setting]), first[setting]);
            due("setting", x.count(12 + setting), greatest[setting]);
            due(name + "0)", x.set(setting, 0), greatest[setting]);
            due(name + "1)", x.set(setting, 1), 0);
            due("setting", x.count(12 + setting), 1);
        }
        due("set(-1, 0)", x.set(-1, 0), BAD_VALUE);
        due("set(5, 0)", x.set(5, 0), BAD_VALUE);
        due("set(MOST, 0)", x.set(MOST, 0), BAD_VALUE);
        due("set(LEAST, 0)", x.set(LEAST, 0), BAD_VALUE);
        due("count(18)", x.count(18), 6);
    }

    private static void buy() {
        part("promise 3, buy");
        due("buy(0, 1, 0)", x.buy(0, 1, 0), 0);
        due("buy(5, 1000000, 12)", x.buy(5, 1000000, 12), 1);
        due("buy(1, 30, 11)", x.buy(1, 30, 11), 0);
        due("buy(2, 40, 23)", x.buy(2, 40, 23), 1);
        due("count(9)", x.count(9), 4);
        due("count(10)", x.count(10), 0);
        dueOrder(0, 0, 0, 1, 0);
        dueOrder(0, 1, 1, 30, 0);
        dueOrder(0, 2, 5, 1000000, 1);
        dueOrder(0, 3, 2, 40, 1);
        x.set(CUT, 0);
        due("buy(0, 7, 0)", x.buy(0, 7, 0), 1);
        x.set(CUT, 23);
        due("buy(0, 8, 22)", x.buy(0, 8, 22), 0);
        due("buy(0, 9, 23)", x.buy(0, 9, 23), 1);
        dueOrder(0, 2, 0, 8, 0);
        dueOrder(0, 6, 0, 9, 1);

        part("promise 3, its errors");
        due("buy(-1, 1, 0)", x.buy(-1, 1, 0), NO_SUCH);
        due("buy(6, 0, 24)", x.buy(6, 0, 24), NO_SUCH);
        due("buy(MOST, 1, 0)", x.buy(MOST, 1, 0), NO_SUCH);
        due("buy(LEAST, 1, 0)", x.buy(LEAST, 1, 0), NO_SUCH);
        due("buy(0, 0, 0)", x.buy(0, 0, 0), BAD_VALUE);
        due("buy(0, 1000001, 0)", x.buy(0, 1000001, 0), BAD_VALUE);
        due("buy(0, LEAST, 0)", x.buy(0, LEAST, 0), BAD_VALUE);
        due("buy(0, 1, -1)", x.buy(0, 1, -1), BAD_VALUE);
        due("buy(0, 1, 24)", x.buy(0, 1, 24), BAD_VALUE);
        due("count(18)", x.count(18), 0);
        for (int i = 0; i < 20; i++) {
            due("buy " + i, x.buy(i % 6, 100 + i, i % 2 * 12), i % 2);
        }
        due("buy(0, 1, 0)", x.buy(0, 1, 0), TOO_MANY);
        due("buy(0, 1, 24)", x.buy(0, 1, 24), BAD_VALUE);
        due("buy(0, 0, 0)", x.buy(0, 0, 0), BAD_VALUE);
        due("buy(6, 1, 0)", x.buy(6, 1, 0), NO_SUCH);
        due("count(9)", x.count(9), 20);
        dueOrder(0, 9, 0, 118, 0);
        dueOrder(0, 10, 1, 101, 1);
        dueOrder(0, 19, 1, 119, 1);
        x.endDay();
        due("count(9)", x.count(9), 10);
        due("buy(0, 1, 0)", x.buy(0, 1, 0), 1);
    }

    private static void leave() {
        partWithUnits("promise 4, leave");
        due("leave(0, 1000, 12)", x.leave(0, 1000, 12), 2);
        due("leave(1, 4000, 11)", x.leave(1, 4000, 11), 1);
        due("leave(0, 5000, 0)", x.leave(0, 5000, 0), 1);
        dueOrder(1, 0, 1, 4000, 1);
        dueOrder(1, 1, 0, 5000, 1);
        dueOrder(1, 2, 0, 1000, 2);
        due("ofHolder(0, 0)", x.ofHolder(0, 0), 6000);
        due("ofHolder(0, 3)", x.ofHolder(0, 3), 6000);
        due("leave(0, 1, 0)", x.leave(0, 1, 0), NOT_POSSIBLE);
        due("leave(1, 1, 0)", x.leave(1, 1, 0), NOT_POSSIBLE);
        due("count(10)", x.count(10), 3);
        due("count(11)", x.count(11), 10000);

        partWithUnits("promise 4, its errors");
        due("leave(-1, 1, 0)", x.leave(-1, 1, 0), NO_SUCH);
        due("leave(6, 0, 24)", x.leave(6, 0, 24), NO_SUCH);
        due("leave(0, 0, 0)", x.leave(0, 0, 0), BAD_VALUE);
        due("leave(0, LEAST, 0)", x.leave(0, LEAST, 0), BAD_VALUE);
        due("leave(0, 1, -1)", x.leave(0, 1, -1), BAD_VALUE);
        due("leave(0, 7000, 24)", x.leave(0, 7000, 24), BAD_VALUE);
        due("leave(0, 6001, 0)", x.leave(0, 6001, 0), NOT_POSSIBLE);
        due("leave(0, MOST, 0)", x.leave(0, MOST, 0), NOT_POSSIBLE);
        due("leave(2, 1, 0)", x.leave(2, 1, 0), NOT_POSSIBLE);
        for (int i = 0; i < 20; i++) {
            due("leave " + i, x.leave(i % 2, 10, 0), 1);
        }
        due("leave(0, 1, 0)", x.leave(0, 1, 0), TOO_MANY);
        due("leave(0, 6001, 0)", x.leave(0, 6001, 0), TOO_MANY);
        due("leave(0, 0, 0)", x.leave(0, 0, 0), BAD_VALUE);
        due("leave(6, 1, 0)", x.leave(6, 1, 0), NO_SUCH);
        due("buy(0, 1, 0)", x.buy(0, 1, 0), 1);
    }

    private static void inKind() {
        partWithOldUnits("promise 5, inKind");
        x.set(COST, 0);
        x.trade(500);
        x.income(20000);
        // 10000 units, 500 lots, 520000 in cash, 2000 for the income of a unit
        due("inKind(0, 999)", x.inKind(0, 999), 49);
        due("count(0)", x.count(0), 520000 - 51948);
        due("count(1)", x.count(1), 451);
        due("count(4)", x.count(4), 9001);
        due("count(6)", x.count(6), 20000 - 1998);
        due("ofHolder(0, 0)", x.ofHolder(0, 0), 5001);
        due("ofHolder(0, 5)", x.ofHolder(0, 5), 51948);
        due("ofHolder(0, 8)", x.ofHolder(0, 8), 49);
        due("inKind(0, 1)", x.inKind(0, 1), 0);
        due("ofHolder(0, 5)", x.ofHolder(0, 5), 51948 + 52);
        due("lastDay(1)", x.lastDay(1), 0);
        due("count(8)", x.count(8), 1);

        partWithUnits("promise 5, all leave");
        x.set(COST, 0);
        x.trade(300);
        due("inKind(0, 6000)", x.inKind(0, 6000), 180);
        due("inKind(1, 4000)", x.inKind(1, 4000), 120);
        due("count(0)", x.count(0), 0);
        due("count(1)", x.count(1), 0);
        due("count(4)", x.count(4), 0);
        due("price(0)", x.price(0), 100000);
        due("inKind(1, 1)", x.inKind(1, 1), NOT_POSSIBLE);

        partWithUnits("promise 5, new units and evening");
        x.income(10000);
        x.pay();
        x.income(20000);
        x.buy(0, 10000, 0);
        x.endDay();
        // 98 new units at 102000, each with an evening of 2
        due("count(7)", x.count(7), 196);
        due("inKind(0, 6049)", x.inKind(0, 6049), 0);
        due("ofHolder(0, 1)", x.ofHolder(0, 1), 0);
        due("ofHolder(0, 2)", x.ofHolder(0, 2), 49);
        due("count(7)", x.count(7), 98);
        due("count(6)", x.count(6), 20196 - 12098);

        partWithUnits("promise 5, its errors");
        x.leave(0, 5990, 0);
        due("inKind(-1, 1)", x.inKind(-1, 1), NO_SUCH);
        due("inKind(6, 0)", x.inKind(6, 0), NO_SUCH);
        due("inKind(0, 0)", x.inKind(0, 0), BAD_VALUE);
        due("inKind(0, LEAST)", x.inKind(0, LEAST), BAD_VALUE);
        due("inKind(0, 11)", x.inKind(0, 11), NOT_POSSIBLE);
        due("inKind(0, MOST)", x.inKind(0, MOST), NOT_POSSIBLE);
        due("inKind(5, 1)", x.inKind(5, 1), NOT_POSSIBLE);
        due("count(18)", x.count(18), 4);
        due("inKind(0, 10)", x.inKind(0, 10), 0);
        due("ofHolder(0, 3)", x.ofHolder(0, 3), 5990);
    }

    private static void endDayPrice() {
        part("promise 6, the first day");
        x.buy(0, 600000, 0);
        x.buy(3, 500, 12);
        due("endDay()", x.endDay(), 1);
        dueDay(6000, 0, 0, 2, 0, 0);
        due("price(2)", x.price(2), 100000);
        due("count(9)", x.count(9), 1);
        due("endDay()", x.endDay(), 2);
        dueDay(5, 0, 0, 2, 0, 0);
        due("count(9)", x.count(9), 0);
        due("ofHolder(3, 2)", x.ofHolder(3, 2), 5);

        partWithUnits("promise 6, at the threshold above 0");
        x.buy(2, 50000, 0);
        x.endDay();
        dueDay(500, 0, 0, 2, 0, 0);
        due("price(2)", x.price(2), 100000);

        partWithUnits("promise 6, beyond the threshold above 0");
        x.buy(2, 50001, 0);
        x.endDay();
        dueDay(495, 0, 0, 3, 0, 0);
        due("price(2)", x.price(2), 101000);
        due("price(0)", x.price(0), 100047);
        due("ofHolder(2, 4)", x.ofHolder(2, 4), 50001);
        due("count(0)", x.count(0), 1050001);

        partWithUnits("promise 6, at the threshold below 0");
        x.leave(0, 500, 0);
        x.endDay();
        dueDay(0, 500, 0, 2, 0, 0);
        due("ofHolder(0, 5)", x.ofHolder(0, 5), 50000);

        partWithUnits("promise 6, beyond the threshold below 0");
        x.leave(0, 501, 0);
        x.endDay();
        dueDay(0, 501, 0, 1, 0, 0);
        due("price(2)", x.price(2), 99000);
        due("ofHolder(0, 5)", x.ofHolder(0, 5), 49599);
        due("price(0)", x.price(0), 100052);

        partWithUnits("promise 6, what comes in and what goes out are set against each other");
        x.leave(0, 1000, 0);
        x.buy(2, 50000, 0);
        due("price(1)", x.price(1), 100000);
        x.buy(3, 100001, 0);
        due("price(1)", x.price(1), 101000);
        x.buy(4, 100000, 12);
        due("price(1)", x.price(1), 101000);
        x.set(GATE, 0);
        x.set(SWING, 100);
        due("price(1)", x.price(1), 110000);
        x.set(THRESHOLD, 151);
        due("price(1)", x.price(1), 100000);
        x.endDay();
        dueDay(1500, 0, 0, 2, 1000, 0);

        partWithUnits("promise 6, a threshold of 0");
        x.set(THRESHOLD, 0);
        due("price(1)", x.price(1), 100000);
        x.buy(2, 1, 0);
        due("price(1)", x.price(1), 101000);
        x.leave(0, 1, 0);
        due("price(1)", x.price(1), 99000);
        x.undo();
        x.undo();
        x.leave(0, 1, 0);
        x.buy(3, 100, 0);
        due("price(1)", x.price(1), 100000);
    }

    private static void endDayShares() {
        partWithUnits("promise 6, shares that come out even");
        x.leave(0, 3000, 0);
        x.leave(1, 1000, 0);
        x.endDay();
        dueDay(0, 1000, 0, 1, 3000, 0);
        dueOrder(1, 0, 0, 2250, 1);
        dueOrder(1, 1, 1, 750, 1);

        partWithUnits("promise 6, one more for the first");
        x.leave(1, 999, 0);
        x.leave(0, 3000, 0);
        x.endDay();
        dueOrder(1, 0, 1, 999 - 250, 1);
        dueOrder(1, 1, 0, 3000 - 750, 1);

        partWithUnits("promise 6, more orders than units");
        x.set(GATE, 1);
        for (int i = 0; i < 12; i++) {
            x.leave(0, 1, 0);
        }
        x.leave(1, 1, 0);
        x.endDay();
        due("lastDay(1)", x.lastDay(1), 10);
        due("count(10)", x.count(10), 3);
        dueOrder(1, 0, 0, 1, 1);
        dueOrder(1, 2, 1, 1, 1);

        partWithUnits("promise 6, an earlier day goes first");
        x.leave(0, 1500, 0);
        x.endDay();
        x.leave(1, 600, 0);
        x.leave(1, 50, 20);
        dueOrder(1, 0, 0, 500, 1);
        x.endDay();
        dueDay(0, 900, 0, 1, 200, 0);
        dueOrder(1, 0, 1, 200, 2);
        dueOrder(1, 1, 1, 50, 3);
        due("count(10)", x.count(10), 2);

        partWithUnits("promise 6, nothing is left for later days");
        x.leave(0, 1500, 12);
        x.leave(1, 1000, 0);
        x.endDay();
        dueDay(0, 1000, 0, 1, 0, 0);
        x.leave(1, 300, 0);
        x.endDay();
        dueOrder(1, 0, 0, 750, 2);
        dueOrder(1, 1, 1, 150, 2);
        x.leave(1, 100, 0);
        x.set(GATE, 110);
        x.endDay();
        // 891 of 8100: 750 and 150 want to go whole, so the day 3 has to wait
        dueDay(0, 891, 0, 1, 109, 0);
        dueOrder(1, 0, 0, 750 - 743, 2);
        dueOrder(1, 1, 1, 150 - 148, 2);
        dueOrder(1, 2, 1, 100, 3);

        partWithUnits("promise 6, a gate of 0");
        x.set(GATE, 0);
        x.leave(0, 100, 0);
        x.endDay();
        dueDay(0, 0, 0, 2, 100, 0);
        dueOrder(1, 0, 0, 100, 1);
    }

    private static void endDayPayments() {
        partWithUnits("promise 6, lots are sold for those who leave");
        x.trade(900);
        due("count(0)", x.count(0), 95500);
        x.leave(0, 1000, 0);
        x.endDay();
        due("price(2)", x.price(2), 98554);
        dueDay(0, 1000, 4, 1, 0, 0);
        due("count(0)", x.count(0), 926);
        due("count(1)", x.count(1), 896);

        partWithUnits("promise 6, so much cash is enough");
        x.set(COST, 0);
        x.trade(900);
        x.leave(0, 1000, 0);
        x.set(SWING, 0);
        x.endDay();
        due("lastDay(2)", x.lastDay(2), 0);
        due("count(0)", x.count(0), 0);

        partWithUnits("promise 6, neither this order nor any behind it is paid");
        x.set(GATE, 1000);
        x.set(SWING, 0);
        x.trade(900);
        x.leave(0, 6000, 0);
        x.leave(1, 3990, 0);
        x.leave(1, 10, 0);
        x.endDay();
        due("lastDay(0)", x.lastDay(0), 0);
        due("lastDay(1)", x.lastDay(1), 6000);
        due("lastDay(2)", x.lastDay(2), 900);
        due("lastDay(4)", x.lastDay(4), 4000);
        due("count(0)", x.count(0), 393700);
        due("count(1)", x.count(1), 0);
        due("count(4)", x.count(4), 4000);
        dueOrder(1, 0, 1, 3990, 1);
        dueOrder(1, 1, 1, 10, 1);
        x.endDay();
        // 98425 is the price: 392715 and 984
        due("lastDay(1)", x.lastDay(1), 4000);
        due("count(0)", x.count(0), 1);
        due("count(10)", x.count(10), 0);

        partWithUnits("promise 6, lots that bring nothing are sold, too");
        x.set(COST, 0);
        x.trade(990);
        x.set(COST, 50);
        x.quote(1);
        // 10990 is the value, 1099 the middle price, 1088 the price, and a lot brings nothing
        x.leave(0, 1000, 0);
        x.endDay();
        due("price(2)", x.price(2), 1088);
        dueDay(0, 1000, 0, 1, 0, 0);
        x.set(GATE, 1000);
        x.leave(0, 5000, 0);
        x.leave(1, 4000, 0);
        x.set(SWING, 0);
        x.endDay();
        due("lastDay(1)", x.lastDay(1), 5000);
        due("lastDay(2)", x.lastDay(2), 990);
        due("count(1)", x.count(1), 0);

        partWithUnits("promise 6, who leaves goes ahead of who comes");
        x.set(COST, 0);
        x.trade(1000);
        x.quote(1);
        x.set(GATE, 1000);
        x.leave(0, 6000, 0);
        x.buy(2, 600, 0);
        x.endDay();
        due("lastDay(2)", x.lastDay(2), 600);
        due("lastDay(1)", x.lastDay(1), 6000);
        due("count(0)", x.count(0), 600);
    }

    private static void endDayBuyers() {
        partWithUnits("promise 6, an amount that is too little");
        x.buy(2, 99, 0);
        x.buy(3, 100, 0);
        x.buy(4, 98, 0);
        x.endDay();
        dueDay(1, 0, 0, 2, 0, 197);
        due("ofHolder(2, 4)", x.ofHolder(2, 4), 0);
        due("ofHolder(3, 4)", x.ofHolder(3, 4), 100);
        due("count(0)", x.count(0), 1000100);
        due("count(9)", x.count(9), 0);

        partWithUnits("promise 6, as many units as there may be");
        x.set(COST, 0);
        x.quote(10000);
        x.trade(100);
        x.quote(1);
        due("price(0)", x.price(0), 10);
        for (int i = 0; i < 10; i++) {
            x.buy(2, 1000000, 0);
        }
        x.buy(3, 999901, 0);
        x.buy(4, 999900, 0);
        x.buy(5, 1, 0);
        x.endDay();
        due("price(2)", x.price(2), 10);
        due("lastDay(0)", x.lastDay(0), 999990000);
        due("lastDay(5)", x.lastDay(5), 1000000 + 999901 + 1);
        due("count(4)", x.count(4), 1000000000);
        due("ofHolder(3, 0)", x.ofHolder(3, 0), 0);
        due("ofHolder(4, 0)", x.ofHolder(4, 0), 99990000);

        partWithLots("promise 6, one unit too many", 10000, 1);
        x.quote(1);
        x.set(SWING, 100);
        for (int i = 0; i < 8; i++) {
            x.buy(1, 1000000, 0);
        }
        x.buy(1, 999999, 0);
        x.buy(1, 999999, 0);
        x.buy(1, 11, 0);
        // 909091720 so far, and 100; the next would make it 1000000001
        x.buy(2, 999990, 0);
        x.buy(3, 999989, 0);
        due("price(1)", x.price(1), 11);
        x.endDay();
        due("lastDay(0)", x.lastDay(0), 909091720 + 90908090);
        due("lastDay(5)", x.lastDay(5), 999990);
        due("ofHolder(2, 0)", x.ofHolder(2, 0), 0);
        due("ofHolder(3, 0)", x.ofHolder(3, 0), 90908090);

        partWithUnits("promise 6, a price of 0");
        x.set(COST, 0);
        x.quote(10000);
        x.trade(100);
        x.quote(1);
        x.buy(2, 1000000, 0);
        x.endDay();
        x.quote(10000);
        x.trade(100);
        x.quote(1);
        due("price(0)", x.price(0), 0);
        x.buy(3, 1000000, 0);
        x.leave(0, 1000, 0);
        x.endDay();
        due("price(2)", x.price(2), 0);
        due("lastDay(0)", x.lastDay(0), 0);
        due("lastDay(1)", x.lastDay(1), 1000);
        due("lastDay(5)", x.lastDay(5), 1000000);
        due("ofHolder(0, 5)", x.ofHolder(0, 5), 0);
    }

    private static void endDayIncome() {
        partWithOldUnits("promise 6, units that are made are evened out");
        x.income(20000);
        x.buy(2, 10000, 0);
        x.buy(3, 10000, 0);
        x.endDay();
        // each 98 units at 102000, with 2000 thousandths, as it was at the beginning of the day's end
        due("count(6)", x.count(6), 20392);
        due("count(7)", x.count(7), 392);
        due("count(5)", x.count(5), 196);
        due("ofHolder(3, 1)", x.ofHolder(3, 1), 0);
        due("ofHolder(3, 2)", x.ofHolder(3, 2), 98);

        partWithOldUnits("promise 6, old units go first");
        x.set(GATE, 1000);
        x.set(THRESHOLD, 1000);
        x.income(20000);
        x.buy(0, 10000, 0);
        x.buy(1, 10000, 0);
        x.endDay();
        x.leave(0, 6000, 0);
        x.endDay();
        due("ofHolder(0, 1)", x.ofHolder(0, 1), 0);
        due("ofHolder(0, 2)", x.ofHolder(0, 2), 98);
        due("count(7)", x.count(7), 392);
        due("count(6)", x.count(6), 20392 - 12000);
        x.leave(0, 33, 0);
        x.endDay();
        due("ofHolder(0, 2)", x.ofHolder(0, 2), 65);
        due("count(7)", x.count(7), 392 - 66);
        due("ofHolder(1, 1)", x.ofHolder(1, 1), 4000);
        x.leave(1, 4000, 0);
        x.leave(1, 98, 0);
        x.leave(0, 65, 0);
        x.endDay();
        due("count(4)", x.count(4), 0);
        due("count(7)", x.count(7), 0);
    }

    private static void endDayPools() {
        partWithUnits("promise 6, the income pool is a part of the cash");
        x.trade(994);
        x.income(50000);
        x.leave(0, 400, 0);
        due("price(0)", x.price(0), 104503);
        x.endDay();
        due("ofHolder(0, 5)", x.ofHolder(0, 5), 41801);
        due("count(0)", x.count(0), 9229);
        due("count(6)", x.count(6), 9229);
        due("price(3)", x.price(3), 961);

        partWithUnits("promise 6, the cap behind each going");
        x.set(GATE, 1000);
        x.set(THRESHOLD, 1000);
        x.trade(994);
        x.income(50000);
        x.leave(0, 400, 0);
        x.leave(1, 1000, 0);
        x.endDay();
        // 9229 behind the first; the second has 104503, for which 96 lots bring 95520, so that 246 are left
        due("lastDay(2)", x.lastDay(2), 96);
        due("count(0)", x.count(0), 246);
        due("count(6)", x.count(6), 246);
    }

    private static void quote() {
        part("promise 7, quote");
        due("quote(1)", x.quote(1), 1000);
        due("quote(10000)", x.quote(10000), 1);
        due("count(2)", x.count(2), 10000);
        due("quote(0)", x.quote(0), BAD_VALUE);
        due("quote(10001)", x.quote(10001), BAD_VALUE);
        due("quote(-1)", x.quote(-1), BAD_VALUE);
        due("quote(LEAST)", x.quote(LEAST), BAD_VALUE);
        due("quote(MOST)", x.quote(MOST), BAD_VALUE);
        due("count(2)", x.count(2), 10000);
        due("count(18)", x.count(18), 2);

        partWithUnits("promise 7, the value follows the quote");
        x.set(COST, 0);
        x.trade(500);
        due("quote(1200)", x.quote(1200), 1000);
        due("count(3)", x.count(3), 1100000);
        due("price(0)", x.price(0), 110000);
    }

    private static void trade() {
        partWithUnits("promise 8, trade");
        due("trade(100)", x.trade(100), 100);
        due("count(0)", x.count(0), 899500);
        due("trade(-40)", x.trade(-40), 60);
        due("count(0)", x.count(0), 899500 + 39800);
        x.quote(1001);
        // COST thousandths of the quote are 5.005, rounded up
        due("trade(1)", x.trade(1), 61);
        due("count(0)", x.count(0), 939300 - 1007);
        due("trade(-61)", x.trade(-61), 0);
        due("count(0)", x.count(0), 938293 + 61 * 995);

        partWithUnits("promise 8, its errors");
        due("trade(0)", x.trade(0), BAD_VALUE);
        due("trade(1001)", x.trade(1001), BAD_VALUE);
        due("trade(-1001)", x.trade(-1001), BAD_VALUE);
        due("trade(LEAST)", x.trade(LEAST), BAD_VALUE);
        due("trade(MOST)", x.trade(MOST), BAD_VALUE);
        due("trade(-1)", x.trade(-1), NOT_POSSIBLE);
        due("trade(996)", x.trade(996), NOT_POSSIBLE);
        due("trade(995)", x.trade(995), 995);
        due("count(0)", x.count(0), 25);
        due("trade(6)", x.trade(6), TOO_MANY);
        due("trade(5)", x.trade(5), NOT_POSSIBLE);
        due("trade(-996)", x.trade(-996), NOT_POSSIBLE);
        due("trade(-1000)", x.trade(-1000), NOT_POSSIBLE);
        x.quote(1);
        due("trade(5)", x.trade(5), 1000);
        due("count(0)", x.count(0), 15);
        due("trade(1)", x.trade(1), TOO_MANY);
        due("trade(1000)", x.trade(1000), TOO_MANY);
        due("trade(-1000)", x.trade(-1000), 0);
        due("count(0)", x.count(0), 15);

        partWithUnits("promise 8, cash of the income pool buys no lots");
        x.trade(900);
        x.income(50000);
        due("trade(96)", x.trade(96), NOT_POSSIBLE);
        due("trade(95)", x.trade(95), 995);
        due("count(0)", x.count(0), 50025);
        due("trade(1)", x.trade(1), NOT_POSSIBLE);
        x.quote(25);
        due("trade(1)", x.trade(1), NOT_POSSIBLE);
        x.quote(24);
        due("trade(1)", x.trade(1), 996);
        due("count(0)", x.count(0), 50000);
        due("count(6)", x.count(6), 50000);
    }

    private static void income() {
        part("promise 9, income without units");
        due("income(0)", x.income(0), BAD_VALUE);
        due("income(1)", x.income(1), NOT_POSSIBLE);
        due("income(1000001)", x.income(1000001), BAD_VALUE);

        partWithUnits("promise 9, income");
        due("income(1)", x.income(1), 1);
        due("income(1000000)", x.income(1000000), 1000001);
        due("income(0)", x.income(0), BAD_VALUE);
        due("income(-1)", x.income(-1), BAD_VALUE);
        due("income(1000001)", x.income(1000001), BAD_VALUE);
        due("income(LEAST)", x.income(LEAST), BAD_VALUE);
        due("count(6)", x.count(6), 1000001);
        due("count(0)", x.count(0), 2000001);
        due("count(7)", x.count(7), 0);
        due("price(3)", x.price(3), 100000);
        due("price(0)", x.price(0), 200000);
    }

    private static void pay() {
        part("promise 10, pay without units");
        due("pay()", x.pay(), 0);
        due("count(18)", x.count(18), 1);

        partWithOldUnits("promise 10, pay");
        x.income(20000);
        x.buy(2, 10000, 0);
        x.endDay();
        due("pay()", x.pay(), 20196);
        due("ofHolder(0, 6)", x.ofHolder(0, 6), 12000);
        due("ofHolder(0, 7)", x.ofHolder(0, 7), 0);
        due("ofHolder(1, 6)", x.ofHolder(1, 6), 8000);
        due("ofHolder(2, 6)", x.ofHolder(2, 6), 196);
        due("ofHolder(2, 7)", x.ofHolder(2, 7), 196);
        due("ofHolder(2, 1)", x.ofHolder(2, 1), 98);
        due("ofHolder(2, 2)", x.ofHolder(2, 2), 0);
        due("count(0)", x.count(0), 1030000 - 20196);
        due("count(5)", x.count(5), 0);
        due("count(6)", x.count(6), 0);
        due("count(7)", x.count(7), 0);

        partWithUnits("promise 10, what can't be shared stays");
        x.income(19999);
        // the income of a unit is 1999, so 11994 and 7996 are paid
        due("pay()", x.pay(), 19990);
        due("count(6)", x.count(6), 9);
        due("count(0)", x.count(0), 1000009);
        x.income(10);
        due("price(3)", x.price(3), 1);
        due("pay()", x.pay(), 10);
        due("ofHolder(0, 6)", x.ofHolder(0, 6), 12000);

        partWithOldUnits("promise 10, evening is no more than the payment");
        x.income(20000);
        x.buy(2, 10000, 0);
        x.endDay();
        x.set(GATE, 1000);
        x.set(SWING, 0);
        x.set(COST, 0);
        x.quote(1009);
        x.trade(1000);
        x.quote(1);
        // 21000 in cash, 2178 the middle price: 10890 are paid, and 10110 in cash is the most that the pool can have
        x.leave(0, 5000, 0);
        x.endDay();
        due("count(6)", x.count(6), 10110);
        due("price(3)", x.price(3), 1983);
        due("count(7)", x.count(7), 196);
        due("pay()", x.pay(), 1983 + 7932 + 194);
        due("ofHolder(2, 6)", x.ofHolder(2, 6), 194);
        due("ofHolder(2, 7)", x.ofHolder(2, 7), 194);
    }

    private static void ofHolder() {
        partWithOldUnits("promise 11, ofHolder");
        x.set(COST, 0);
        x.trade(500);
        x.income(20000);
        x.buy(0, 10000, 0);
        x.endDay();
        x.leave(0, 100, 0);
        x.endDay();
        x.inKind(0, 50);
        x.leave(0, 7, 0);
        // 98 new units came at 102000; 100 old ones went at 102000, then 50 in kind of 9998: 2 lots and 2598 in cash
        int[] want = {5948, 5850, 98, 7, 610000, 10200 + 2599, 0, 0, 2};
        for (int what = 0; what < want.length; what++) {
            due("ofHolder(0, " + what + ")", x.ofHolder(0, what), want[what]);
        }
        x.pay();
        due("ofHolder(0, 1)", x.ofHolder(0, 1), 5948);
        due("ofHolder(0, 2)", x.ofHolder(0, 2), 0);
        due("ofHolder(0, 6)", x.ofHolder(0, 6), 11896);
        due("ofHolder(0, 7)", x.ofHolder(0, 7), 196);
        due("ofHolder(-1, 0)", x.ofHolder(-1, 0), NO_SUCH);
        due("ofHolder(6, 9)", x.ofHolder(6, 9), NO_SUCH);
        due("ofHolder(LEAST, 0)", x.ofHolder(LEAST, 0), NO_SUCH);
        due("ofHolder(MOST, 0)", x.ofHolder(MOST, 0), NO_SUCH);
        due("ofHolder(0, -1)", x.ofHolder(0, -1), BAD_VALUE);
        due("ofHolder(0, 9)", x.ofHolder(0, 9), BAD_VALUE);
        due("ofHolder(5, LEAST)", x.ofHolder(5, LEAST), BAD_VALUE);
        due("ofHolder(5, MOST)", x.ofHolder(5, MOST), BAD_VALUE);
    }

    private static void count() {
        partWithOldUnits("promise 12, count");
        x.set(CUT, 6);
        x.set(THRESHOLD, 40);
        x.set(SWING, 11);
        x.set(GATE, 90);
        x.set(COST, 3);
        x.trade(100);
        x.income(20000);
        x.quote(990);
        x.buy(2, 10000, 0);
        x.endDay();
        x.buy(2, 10, 0);
        x.buy(2, 10, 0);
        x.leave(0, 30, 0);
        x.leave(1, 40, 0);
        x.leave(1, 50, 6);
        write("d;d");
        // the value was 1018700, so 98 units came at 101870
        int[] want = {929700, 100, 990, 1028700, 10098, 98, 20196, 196, 2, 2, 3, 120, 6, 40, 11, 90, 3, 3, 6};
        for (int what = 0; what < want.length; what++) {
            due("count(" + what + ")", x.count(what), want[what]);
        }
        due("count(-1)", x.count(-1), BAD_VALUE);
        due("count(19)", x.count(19), BAD_VALUE);
        due("count(LEAST)", x.count(LEAST), BAD_VALUE);
        due("count(MOST)", x.count(MOST), BAD_VALUE);
    }

    private static void order() {
        partWithUnits("promise 13, order");
        x.buy(3, 77, 20);
        x.buy(4, 88, 0);
        x.leave(1, 99, 0);
        dueOrder(0, 0, 4, 88, 1);
        dueOrder(0, 1, 3, 77, 2);
        dueOrder(1, 0, 1, 99, 1);
        due("order(0, 2, 0)", x.order(0, 2, 0), NO_SUCH);
        due("order(1, 1, 0)", x.order(1, 1, 0), NO_SUCH);
        due("order(0, -1, 0)", x.order(0, -1, 0), NO_SUCH);
        due("order(1, 20, 0)", x.order(1, 20, 0), NO_SUCH);
        due("order(1, MOST, 0)", x.order(1, MOST, 0), NO_SUCH);
        due("order(0, LEAST, 0)", x.order(0, LEAST, 0), NO_SUCH);
        due("order(-1, 0, 0)", x.order(-1, 0, 0), BAD_VALUE);
        due("order(2, 0, 0)", x.order(2, 0, 0), BAD_VALUE);
        due("order(MOST, 0, 0)", x.order(MOST, 0, 0), BAD_VALUE);
        due("order(0, 0, -1)", x.order(0, 0, -1), BAD_VALUE);
        due("order(0, 0, 3)", x.order(0, 0, 3), BAD_VALUE);
        due("order(0, 9, 3)", x.order(0, 9, 3), BAD_VALUE);
        due("order(2, 9, 0)", x.order(2, 9, 0), BAD_VALUE);
    }

    private static void lastDay() {
        part("promise 14, lastDay");
        due("lastDay(0)", x.lastDay(0), NONE);
        due("lastDay(-1)", x.lastDay(-1), BAD_VALUE);
        due("lastDay(6)", x.lastDay(6), BAD_VALUE);
        due("lastDay(LEAST)", x.lastDay(LEAST), BAD_VALUE);
        due("lastDay(MOST)", x.lastDay(MOST), BAD_VALUE);
        x.endDay();
        dueDay(0, 0, 0, 2, 0, 0);
        x.undo();
        due("lastDay(5)", x.lastDay(5), NONE);

        partWithUnits("promise 14, of a day with everything");
        x.trade(950);
        x.buy(2, 3000, 0);
        x.buy(2, 5, 0);
        x.leave(0, 1001, 0);
        x.leave(0, 77, 20);
        x.endDay();
        // 1000 units at 98505 are 98505; 45250 is there, and 54 lots bring 53730
        dueDay(30, 1000, 54, 1, 1, 5);
        due("price(2)", x.price(2), 98529);
    }

    private static void price() {
        partWithUnits("promise 15, price");
        due("price(-1)", x.price(-1), BAD_VALUE);
        due("price(4)", x.price(4), BAD_VALUE);
        due("price(LEAST)", x.price(LEAST), BAD_VALUE);
        due("price(MOST)", x.price(MOST), BAD_VALUE);
        x.leave(0, 1000, 0);
        x.income(7777);
        due("price(0)", x.price(0), 100777);
        due("price(1)", x.price(1), 99769);
        due("price(2)", x.price(2), 100000);
        due("price(3)", x.price(3), 777);
        due("count(8)", x.count(8), 1);
        due("count(10)", x.count(10), 1);
        x.endDay();
        due("price(2)", x.price(2), 99769);

        part("promise 15, a price beyond the ints");
        x.buy(0, 100, 0);
        x.endDay();
        for (int i = 0; i < 30; i++) {
            x.income(1000000);
        }
        due("price(0)", x.price(0), 30000100000L);
        due("price(3)", x.price(3), 30000000000L);
    }

    private static void exitIn() {
        partWithUnits("promise 16, exitIn");
        due("exitIn(0)", x.exitIn(0), 0);
        x.leave(0, 3000, 0);
        due("exitIn(0)", x.exitIn(0), 4);
        due("exitIn(1)", x.exitIn(1), 0);
        x.leave(1, 10, 12);
        due("exitIn(1)", x.exitIn(1), 4);
        due("exitIn(-1)", x.exitIn(-1), NO_SUCH);
        due("exitIn(6)", x.exitIn(6), NO_SUCH);
        due("exitIn(MOST)", x.exitIn(MOST), NO_SUCH);
        due("exitIn(LEAST)", x.exitIn(LEAST), NO_SUCH);
        x.set(GATE, 0);
        due("exitIn(0)", x.exitIn(0), NONE);
        x.set(GATE, 1000);
        due("exitIn(0)", x.exitIn(0), 1);
        due("exitIn(1)", x.exitIn(1), 2);
        due("count(8)", x.count(8), 1);
        due("count(11)", x.count(11), 3010);
        due("price(2)", x.price(2), 100000);
        due("count(18)", x.count(18), 6);

        partWithUnits("promise 16, behind 60 of them");
        x.set(GATE, 1);
        x.leave(0, 541, 0);
        due("exitIn(0)", x.exitIn(0), 60);
        x.leave(0, 1, 0);
        due("exitIn(0)", x.exitIn(0), NONE);
    }

    private static void fairSwing() {
        partWithUnits("promise 17, fairSwing");
        due("fairSwing()", x.fairSwing(), 0);
        x.set(COST, 50);
        x.trade(900);
        x.leave(0, 1000, 0);
        due("price(0)", x.price(0), 95500);
        due("fairSwing()", x.fairSwing(), 22);
        due("count(14)", x.count(14), 10);
        due("count(8)", x.count(8), 1);
        due("count(1)", x.count(1), 900);
        x.set(SWING, 21);
        x.endDay();
        CHECK.holds("21 is not fair", x.price(0) < 95500);
        x.undo();
        x.set(SWING, 22);
        x.endDay();
        CHECK.holds("22 is fair", x.price(0) >= 95500);

        partWithUnits("promise 17, below the threshold no swing helps");
        x.set(COST, 50);
        x.trade(945);
        x.leave(0, 100, 0);
        due("fairSwing()", x.fairSwing(), NONE);

        partWithLots("promise 17, 100 is the last", 10, 1000);
        x.quote(10);
        x.leave(0, 10, 0);
        due("fairSwing()", x.fairSwing(), 100);

        partWithLots("promise 17, 101 is too much", 100, 100);
        x.quote(9);
        x.leave(0, 10, 0);
        due("fairSwing()", x.fairSwing(), NONE);
    }

    private static void put() {
        part("promise 18, put");
        due("put d", x.put('d'), 1);
        due("put ;b0:5@1;", x.put(packed(";b0:5@1;")), 9);
        due("put p", x.put(packed("p")), 10);
        due("fault()", x.fault(), NONE);
        due("put ~~~~~~~~", x.put(packed("~~~~~~~~")), 18);
        due("put !", x.put(33), 19);
        due("put(0)", x.put(0), BAD_VALUE);
        due("put(32)", x.put(32), BAD_VALUE);
        due("put(127)", x.put(127), BAD_VALUE);
        due("put(255)", x.put(255), BAD_VALUE);
        due("put(-1)", x.put(-1), BAD_VALUE);
        due("put(LEAST)", x.put(Long.MIN_VALUE), BAD_VALUE);
        due("put(MOST)", x.put(Long.MAX_VALUE), BAD_VALUE);
        due("put 'd', 0, 'd'", x.put(0x640064), BAD_VALUE);
        due("put 'd', 0", x.put(0x6400), BAD_VALUE);
        due("put 1 bit above", x.put(1L << 40 | 'd'), BAD_VALUE);
        due("put the highest bit above", x.put(Long.MIN_VALUE | 'd'), BAD_VALUE);
        due("put ' d'", x.put(packed(" d")), BAD_VALUE);
        due("put 'd '", x.put(packed("d ")), BAD_VALUE);
        due("count(17)", x.count(17), 19);
        due("count(18)", x.count(18), 0);

        part("promise 18, a full pad");
        for (int length = 8; length <= 72; length += 8) {
            due("put to " + length, x.put(packed("d;d;d;d;")), length);
        }
        due("put 7", x.put(packed("d;d;d;d")), 79);
        due("put 2", x.put(packed(";d")), TOO_MANY);
        due("put(0)", x.put(0), BAD_VALUE);
        due("put 8 with a wrong one", x.put(packed("d;d;d;d ")), BAD_VALUE);
        due("count(17)", x.count(17), 79);
        due("put 1", x.put(packed("0")), 80);
        due("put 1 more", x.put(packed("0")), TOO_MANY);
        due("fault()", x.fault(), 79);
    }

    private static void wipe() {
        part("promise 19, wipe");
        due("wipe()", x.wipe(), 0);
        write("d;dd");
        due("wipe()", x.wipe(), 4);
        due("wipe()", x.wipe(), 0);
        due("count(17)", x.count(17), 0);
        write("p");
        due("fault()", x.fault(), NONE);
        due("carryOut()", x.carryOut(), 1);
        due("count(8)", x.count(8), 0);
        due("wipe()", x.wipe(), 0);
    }

    private static void fault() {
        part("promise 20, fault");
        String[] good = {"d", "p", "d;p", "b0:0", "b5:1000000", "b0:1000000@23", "l0:5", "l3:10@0", "b0:1@9", "l0:7@10",
            "b0:1@19", "b0:1@20;d", "q0", "q1000000", "i0", "i999999", "b0:1;l1:2@3;q4;i5;d;p", "l2:100000@22;q7"};
        for (String text : good) {
            dueFault(text, NONE);
        }
        dueFault("", 0);
        String[] faulty = {"x", "D", ";", "0", "@", ":", "B0:1"};
        for (String text : faulty) {
            dueFault(text, 0);
        }
        String[] atOne = {"dd", "b", "l", "q", "i", "b6:1", "b9", "b:1", "d1", "p@1", "d:", "q;", "i@5", "q-1", "bb", "b@0:1"};
        for (String text : atOne) {
            dueFault(text, 1);
        }
        String[] atTwo = {"d;", "d;;", "d;x", "b0", "l5", "b0;", "b01:5", "b00:5", "q5@1", "i5:1", "q01", "i00", "b0@1"};
        for (String text : atTwo) {
            dueFault(text, 2);
        }
        dueFault("b0:", 3);
        dueFault("b0:;", 3);
        dueFault("b0:@5", 3);
        dueFault("l0:x", 3);
        dueFault("b0:01", 4);
        dueFault("b0:5:", 4);
        dueFault("b0:5d", 4);
        dueFault("b0:5@", 5);
        dueFault("b0:5@;", 5);
        dueFault("b0:5@x", 5);
        dueFault("b0:5@24", 6);
        dueFault("b0:5@30", 6);
        dueFault("b0:5@99", 6);
        dueFault("b0:5@00", 6);
        dueFault("b0:5@0@1", 6);
        dueFault("b0:5@230", 7);
        dueFault("b0:5@100", 7);
        dueFault("b0:1000001", 9);
        dueFault("b0:2000000", 9);
        dueFault("l0:9999999", 9);
        dueFault("b0:10000000", 10);
        dueFault("i1000001", 7);
        dueFault("q1000002", 7);
        dueFault("q10000000", 8);
        dueFault("d;p;b0:5@12;", 12);
        dueFault("d;p;b0:5@12;q", 13);
        x.wipe();
        due("count(18)", x.count(18), 0);
    }

    private static void dueFault(String text, int want) {
        // A fresh object for each, as only so many calls are promised.
        x = new SwingUnits();
        write(text);
        due("fault() of " + text, x.fault(), want);
        due("count(17) of " + text, x.count(17), text.length());
        if (want != NONE) {
            due("carryOut() of " + text, x.carryOut(), BAD_TEXT);
            due("count(17) of " + text, x.count(17), text.length());
            due("count(18) of " + text, x.count(18), 0);
        }
    }

    private static void carryOut() {
        part("promise 21, carryOut");
        due("carryOut()", x.carryOut(), BAD_TEXT);
        write("b0:600000;b1:400000@11;b2:5000@12;d;q2000;i20000;l0:100;l1:50@23;p");
        due("carryOut()", x.carryOut(), 9);
        due("count(17)", x.count(17), 0);
        due("count(18)", x.count(18), 1);
        due("count(8)", x.count(8), 1);
        due("count(2)", x.count(2), 2000);
        due("ofHolder(0, 6)", x.ofHolder(0, 6), 12000);
        dueOrder(0, 0, 2, 5000, 1);
        dueOrder(1, 0, 0, 100, 1);
        dueOrder(1, 1, 1, 50, 2);
        due("undo()", x.undo(), 0);
        due("count(4)", x.count(4), 0);
        due("count(2)", x.count(2), 1000);
        due("count(17)", x.count(17), 0);

        part("promise 21, up to the first error");
        write("b0:100;d;i0;d");
        due("carryOut()", x.carryOut(), 2);
        due("count(8)", x.count(8), 1);
        due("count(17)", x.count(17), 0);
        due("count(18)", x.count(18), 1);
        write("q0;d;d");
        due("carryOut()", x.carryOut(), 0);
        due("count(8)", x.count(8), 1);
        due("count(17)", x.count(17), 0);
        due("count(18)", x.count(18), 2);
        write("d;q10001");
        due("carryOut()", x.carryOut(), 1);
        write("d;l0:2;d");
        due("carryOut()", x.carryOut(), 1);
        write("d;b0:0;d");
        due("carryOut()", x.carryOut(), 1);
        write("l0:1;d;b1:100@0");
        due("carryOut()", x.carryOut(), 3);
        due("count(18)", x.count(18), 6);
        due("count(8)", x.count(8), 5);

        part("promise 21, a full pad");
        for (int i = 0; i < 9; i++) {
            x.put(packed("d;d;d;d;"));
        }
        x.put(packed("d;d;q777"));
        due("carryOut()", x.carryOut(), 39);
        due("count(8)", x.count(8), 38);
        due("count(2)", x.count(2), 777);

        part("promise 21, too many orders");
        for (int i = 0; i < 19; i++) {
            x.buy(0, 1, 0);
        }
        write("b0:7;b0:8;d");
        due("carryOut()", x.carryOut(), 1);
        due("count(9)", x.count(9), 20);
        due("count(8)", x.count(8), 0);
    }

    private static void undo() {
        part("promise 22, undo");
        for (int i = 0; i < 8; i++) {
            x.quote(10 + i);
            due("count(18)", x.count(18), Math.min(6, i + 1));
        }
        for (int i = 5; i >= 0; i--) {
            due("undo()", x.undo(), i);
            due("count(2)", x.count(2), 11 + i);
        }
        due("undo()", x.undo(), NOT_POSSIBLE);
        due("count(2)", x.count(2), 11);
        x.quote(11);
        due("count(18)", x.count(18), 1);
        x.quote(99);
        x.undo();
        x.quote(12);
        due("count(18)", x.count(18), 2);
        due("undo()", x.undo(), 1);
        due("count(2)", x.count(2), 11);

        part("promise 22, the pad and the slots are not undone");
        x.quote(5);
        x.save(0);
        x.quote(6);
        write("d;");
        due("undo()", x.undo(), 1);
        due("undo()", x.undo(), 0);
        due("count(17)", x.count(17), 2);
        due("count(2)", x.count(2), 1000);
        due("restore(0)", x.restore(0), 0);
        due("count(2)", x.count(2), 5);

        part("promise 22, what is no change records nothing");
        x.wipe();
        x.put('d');
        x.fault();
        x.exitIn(0);
        x.fairSwing();
        x.save(1);
        x.price(1);
        x.undo();
        x.buy(6, 1, 0);
        x.leave(0, 1, 0);
        x.inKind(0, 1);
        x.quote(0);
        x.trade(1);
        x.income(1);
        x.set(9, 1);
        x.restore(0);
        due("count(18)", x.count(18), 0);
    }

    private static void undoEachChange() {
        CHECK.part("promise 22, each change is undone");
        withEverything();
        String before = state();
        x.set(GATE, 7);
        dueUndone("set", before);
        x.buy(1, 5, 0);
        dueUndone("buy", before);
        x.leave(1, 5, 0);
        dueUndone("leave", before);
        x.inKind(2, 50);
        dueUndone("inKind", before);
        x.endDay();
        dueUndone("endDay", before);
        x.quote(77);
        dueUndone("quote", before);
        x.trade(-5);
        dueUndone("trade", before);
        x.income(5);
        dueUndone("income", before);
        x.pay();
        dueUndone("pay", before);
        write("q5;b3:1000;p;d;d");
        x.carryOut();
        dueUndone("carryOut", before);
        x.endDay();
        String changed = state();
        x.restore(1);
        CHECK.holds("restore brings all back", state().equals(before));
        x.undo();
        CHECK.holds("restore is undone", state().equals(changed));
    }

    private static void dueUndone(String name, String before) {
        CHECK.holds(name + " changes something", !state().equals(before));
        x.undo();
        CHECK.holds(name + " is undone", state().equals(before));
        // To look at all that there is takes many calls, and the promise ends with the 512th.
        withEverything();
    }

    private static void save() {
        part("promise 23, save");
        due("save(-1)", x.save(-1), BAD_VALUE);
        due("save(2)", x.save(2), BAD_VALUE);
        due("save(LEAST)", x.save(LEAST), BAD_VALUE);
        due("save(MOST)", x.save(MOST), BAD_VALUE);
        due("save(0)", x.save(0), 0);
        x.endDay();
        x.quote(7);
        due("save(1)", x.save(1), 1);
        due("count(18)", x.count(18), 2);
        x.endDay();
        x.quote(8);
        due("restore(1)", x.restore(1), 1);
        due("count(2)", x.count(2), 7);
        due("restore(0)", x.restore(0), 0);
        due("count(2)", x.count(2), 1000);
        due("lastDay(0)", x.lastDay(0), NONE);
        x.quote(9);
        due("save(1)", x.save(1), 0);
        x.endDay();
        x.quote(10);
        due("restore(1)", x.restore(1), 0);
        due("count(2)", x.count(2), 9);
    }

    private static void restore() {
        partWithUnits("promise 24, restore");
        due("restore(-1)", x.restore(-1), BAD_VALUE);
        due("restore(2)", x.restore(2), BAD_VALUE);
        due("restore(LEAST)", x.restore(LEAST), BAD_VALUE);
        due("restore(MOST)", x.restore(MOST), BAD_VALUE);
        due("restore(0)", x.restore(0), NOT_POSSIBLE);
        due("restore(1)", x.restore(1), NOT_POSSIBLE);
        due("count(18)", x.count(18), 3);
        x.save(1);
        due("restore(0)", x.restore(0), NOT_POSSIBLE);
        write("dd");
        x.leave(0, 100, 0);
        x.endDay();
        due("restore(1)", x.restore(1), 1);
        due("count(18)", x.count(18), 6);
        due("count(17)", x.count(17), 2);
        due("count(10)", x.count(10), 0);
        due("count(4)", x.count(4), 10000);
        x.quote(50);
        due("restore(1)", x.restore(1), 1);
        due("count(2)", x.count(2), 1000);
        due("undo()", x.undo(), 5);
        due("count(2)", x.count(2), 50);
        due("undo()", x.undo(), 4);
        due("undo()", x.undo(), 3);
        due("count(8)", x.count(8), 2);
        due("count(4)", x.count(4), 9900);
    }
}
