/** The edges that the document's terms name: conventions, settings, the trust, income, orders. */
public final class EdgesOfTermsTest extends Edges {
    private static final String ROUNDED = "Divisions are rounded down, unless \"rounded up\" is written.";
    private static final String UNCHANGED = "A call that returns an error changes nothing.";
    private static final String ERRORS_IN_ORDER =
        "it names its errors in the order in which they are checked, and the first one that applies is returned.";

    public static void main(String[] args) {
        Check.watch();
        run();
        CHECK.end("EdgesOfTermsTest");
    }

    static void run() {
        callsOfAnObject();
        errorsInOrder();
        refusedCalls();
        refusedCallsOfFullRows();
        noneAndNumbers();
        roundedPrices();
        roundedUnits();
        roundedPools();
        settings();
        trust();
        costs();
        pools();
        goingUnits();
        cappedPool();
        payments();
        daysOfOrders();
        rowsOfOrders();
    }

    private static void callsOfAnObject() {
        section("## What it is");
        edge("the 512th call is answered", "An object is used for at most 512 calls after it has been made", () -> {
            for (int i = 1; i < 512; i++) {
                due("endDay() " + i, x.endDay(), i);
            }
            due("count(8), the 512th call", x.count(8), 511);
        });
        edge("later calls end and throw nothing", "what later calls answer is free", () -> {
            for (int i = 0; i < 3000; i++) {
                x.buy(i % 6, 1000000, 0);
                x.leave(i % 6, 1 + i, 0);
                x.income(1000000);
                x.endDay();
                x.fairSwing();
                x.exitIn(i % 6);
            }
        });
    }

    private static void errorsInOrder() {
        section("## Terms");
        edge("errors of buy, in order", ERRORS_IN_ORDER, () -> {
            for (int i = 0; i < 20; i++) {
                x.buy(0, 1, 0);
            }
            due("buy(6, 0, 24)", x.buy(6, 0, 24), NO_SUCH);
            due("buy(0, 0, 0)", x.buy(0, 0, 0), BAD_VALUE);
            due("buy(0, 1, 24)", x.buy(0, 1, 24), BAD_VALUE);
            due("buy(0, 1, 0)", x.buy(0, 1, 0), TOO_MANY);
        });
        edge("errors of leave, in order", ERRORS_IN_ORDER, () -> {
            withUnits();
            due("leave(6, 0, 24)", x.leave(6, 0, 24), NO_SUCH);
            due("leave(0, 6001, 24)", x.leave(0, 6001, 24), BAD_VALUE);
            for (int i = 0; i < 20; i++) {
                x.leave(0, 1, 0);
            }
            due("leave(6, 1, 0)", x.leave(6, 1, 0), NO_SUCH);
            due("leave(0, 0, 0)", x.leave(0, 0, 0), BAD_VALUE);
            due("leave(0, 1, 24)", x.leave(0, 1, 24), BAD_VALUE);
            due("leave(0, 6001, 0)", x.leave(0, 6001, 0), TOO_MANY);
        });
        edge("errors of inKind, in order", ERRORS_IN_ORDER, () -> {
            due("inKind(6, 0)", x.inKind(6, 0), NO_SUCH);
            due("inKind(6, 1)", x.inKind(6, 1), NO_SUCH);
            due("inKind(0, 0)", x.inKind(0, 0), BAD_VALUE);
            due("inKind(0, 1)", x.inKind(0, 1), NOT_POSSIBLE);
        });
        edge("errors of trade, in order", ERRORS_IN_ORDER, () -> {
            withUnits();
            x.trade(1);
            due("trade(1001)", x.trade(1001), BAD_VALUE);
            due("trade(1000), dearer than the cash", x.trade(1000), TOO_MANY);
            due("trade(999), dearer than the cash", x.trade(999), NOT_POSSIBLE);
            due("trade(-1001)", x.trade(-1001), BAD_VALUE);
            due("trade(-1000)", x.trade(-1000), NOT_POSSIBLE);
        });
        edge("errors of income, in order", ERRORS_IN_ORDER, () -> {
            due("income(0) without units", x.income(0), BAD_VALUE);
            due("income(1000001) without units", x.income(1000001), BAD_VALUE);
            due("income(1) without units", x.income(1), NOT_POSSIBLE);
        });
        edge("errors of ofHolder, in order", ERRORS_IN_ORDER, () -> {
            due("ofHolder(6, 9)", x.ofHolder(6, 9), NO_SUCH);
            due("ofHolder(-1, -1)", x.ofHolder(-1, -1), NO_SUCH);
        });
        edge("errors of order, in order", ERRORS_IN_ORDER, () -> {
            due("order(2, 0, 0)", x.order(2, 0, 0), BAD_VALUE);
            due("order(0, 0, 3)", x.order(0, 0, 3), BAD_VALUE);
            due("order(0, 0, 0)", x.order(0, 0, 0), NO_SUCH);
        });
        edge("errors of put, in order", ERRORS_IN_ORDER, () -> {
            write("d;".repeat(40));
            due("put(0) on a full pad", x.put(0), BAD_VALUE);
            due("put(32) on a full pad", x.put(32), BAD_VALUE);
            due("put('d') on a full pad", x.put('d'), TOO_MANY);
        });
        edge("errors of restore, in order", ERRORS_IN_ORDER, () -> {
            due("restore(2)", x.restore(2), BAD_VALUE);
            due("restore(1)", x.restore(1), NOT_POSSIBLE);
        });
    }

    private static void refusedCalls() {
        unchangedBy("set", () -> {
            due("set(0, 24)", x.set(0, 24), BAD_VALUE);
            due("set(2, -1)", x.set(2, -1), BAD_VALUE);
            due("set(5, 0)", x.set(5, 0), BAD_VALUE);
        });
        unchangedBy("buy", () -> {
            due("buy(6, 1, 0)", x.buy(6, 1, 0), NO_SUCH);
            due("buy(0, 0, 0)", x.buy(0, 0, 0), BAD_VALUE);
            due("buy(0, 1, 24)", x.buy(0, 1, 24), BAD_VALUE);
        });
        unchangedBy("leave", () -> {
            due("leave(6, 1, 0)", x.leave(6, 1, 0), NO_SUCH);
            due("leave(0, 0, 0)", x.leave(0, 0, 0), BAD_VALUE);
            due("leave(0, 1, 24)", x.leave(0, 1, 24), BAD_VALUE);
            due("leave(0, 3001, 0)", x.leave(0, 3001, 0), NOT_POSSIBLE);
        });
        unchangedBy("inKind", () -> {
            due("inKind(6, 1)", x.inKind(6, 1), NO_SUCH);
            due("inKind(0, 0)", x.inKind(0, 0), BAD_VALUE);
            due("inKind(0, 3001)", x.inKind(0, 3001), NOT_POSSIBLE);
        });
        unchangedBy("quote", () -> {
            due("quote(0)", x.quote(0), BAD_VALUE);
            due("quote(10001)", x.quote(10001), BAD_VALUE);
        });
        unchangedBy("trade", () -> {
            due("trade(0)", x.trade(0), BAD_VALUE);
            due("trade(901)", x.trade(901), TOO_MANY);
            due("trade(-1000)", x.trade(-1000), NOT_POSSIBLE);
        });
        unchangedBy("income", () -> {
            due("income(0)", x.income(0), BAD_VALUE);
            due("income(1000001)", x.income(1000001), BAD_VALUE);
        });
        unchangedBy("put", () -> {
            due("put(0)", x.put(0), BAD_VALUE);
            due("put(32)", x.put(32), BAD_VALUE);
            due("put 'd', 127", x.put('d' << 8 | 127), BAD_VALUE);
            due("put 'd', 0", x.put('d' << 8), BAD_VALUE);
        });
        unchangedBy("carryOut", () -> due("carryOut()", x.carryOut(), BAD_TEXT));
        unchangedBy("save", () -> due("save(2)", x.save(2), BAD_VALUE));
        unchangedBy("restore", () -> {
            due("restore(2)", x.restore(2), BAD_VALUE);
            due("restore(0)", x.restore(0), NOT_POSSIBLE);
        });
        edge("a refused save saves nothing", UNCHANGED, () -> {
            due("save(-1)", x.save(-1), BAD_VALUE);
            due("save(2)", x.save(2), BAD_VALUE);
            due("restore(0)", x.restore(0), NOT_POSSIBLE);
            due("restore(1)", x.restore(1), NOT_POSSIBLE);
        });
        edge("a refused undo changes nothing", UNCHANGED, () -> {
            String before = all();
            due("undo()", x.undo(), NOT_POSSIBLE);
            CHECK.holds("all is as before", all().equals(before));
        });
    }

    private static void unchangedBy(String name, Edge refused) {
        edge("a refused " + name + " changes nothing", UNCHANGED, () -> {
            withEverything();
            write("d;");
            String before = all();
            refused.run();
            CHECK.holds("all is as before", all().equals(before));
        });
    }

    private static void refusedCallsOfFullRows() {
        edge("a refused call drops nothing of a full history", UNCHANGED, () -> {
            for (int i = 0; i < 6; i++) {
                x.quote(10 + i);
            }
            x.buy(6, 1, 0);
            x.quote(0);
            x.set(9, 1);
            x.trade(1);
            x.restore(0);
            x.carryOut();
            due("count(18)", x.count(18), 6);
            for (int i = 5; i > 0; i--) {
                due("undo()", x.undo(), i);
                due("count(2)", x.count(2), 9 + i);
            }
            due("undo()", x.undo(), 0);
            due("count(2)", x.count(2), 1000);
        });
        edge("a refused order changes nothing of full rows", UNCHANGED, () -> {
            withUnits();
            for (int i = 0; i < 20; i++) {
                x.buy(0, 1 + i, 0);
                x.leave(1, 1 + i, 0);
            }
            due("buy(1, 77, 0)", x.buy(1, 77, 0), TOO_MANY);
            due("leave(0, 77, 0)", x.leave(0, 77, 0), TOO_MANY);
            due("count(9)", x.count(9), 20);
            due("count(10)", x.count(10), 20);
            for (int i = 0; i < 20; i++) {
                dueOrder(0, i, 0, 1 + i, 1);
                dueOrder(1, i, 1, 1 + i, 1);
            }
            due("ofHolder(0, 3)", x.ofHolder(0, 3), 0);
        });
        edge("a refused put leaves a full pad", UNCHANGED, () -> {
            write("d;".repeat(39) + "d");
            due("put ';d'", x.put(packed(";d")), TOO_MANY);
            due("count(17)", x.count(17), 79);
            due("fault()", x.fault(), NONE);
        });
        edge("lots that are too dear change nothing", UNCHANGED, () -> {
            withUnits();
            due("trade(996)", x.trade(996), NOT_POSSIBLE);
            due("count(0)", x.count(0), 1000000);
            due("count(1)", x.count(1), 0);
            due("count(18)", x.count(18), 3);
        });
        edge("income without units changes nothing", UNCHANGED, () -> {
            due("income(5)", x.income(5), NOT_POSSIBLE);
            due("count(0)", x.count(0), 0);
            due("count(6)", x.count(6), 0);
            due("count(18)", x.count(18), 0);
        });
    }

    private static void noneAndNumbers() {
        String none = "NONE (-6) is not an error; it is returned only if no error applies.";
        edge("an error goes ahead of NONE in lastDay", none, () -> {
            due("lastDay(6)", x.lastDay(6), BAD_VALUE);
            due("lastDay(-1)", x.lastDay(-1), BAD_VALUE);
            due("lastDay(5)", x.lastDay(5), NONE);
        });
        edge("an error goes ahead of NONE in exitIn", none, () -> {
            withUnits();
            x.set(GATE, 0);
            x.leave(0, 1, 0);
            due("exitIn(6)", x.exitIn(6), NO_SUCH);
            due("exitIn(0)", x.exitIn(0), NONE);
        });
        edge("an error goes ahead of -6 in price", none, () -> {
            due("price(4)", x.price(4), BAD_VALUE);
            due("price(2)", x.price(2), NONE);
        });
        edge("NONE of fault is no error, the text is carried out", none, () -> {
            write("d");
            due("fault()", x.fault(), NONE);
            due("carryOut()", x.carryOut(), 1);
        });
        edge("the first of each is number 0", "Everything is numbered from 0.", () -> {
            due("set(0, 13)", x.set(0, 13), 12);
            due("buy(0, 500, 12)", x.buy(0, 500, 12), 0);
            due("order(0, 0, 0)", x.order(0, 0, 0), 0);
            due("order(0, 0, 1)", x.order(0, 0, 1), 500);
            due("save(0)", x.save(0), 0);
            due("fault()", x.fault(), 0);
            due("price(0)", x.price(0), 100000);
            due("ofHolder(0, 0)", x.ofHolder(0, 0), 0);
        });
        edge("the first day is day 0", "The day is 0 at first.", () -> {
            due("count(8)", x.count(8), 0);
            due("buy(0, 1, 0)", x.buy(0, 1, 0), 0);
            due("save(0)", x.save(0), 0);
            due("endDay()", x.endDay(), 1);
        });
    }

    /** 3 units and 302 in cash, of which 2 are in the income pool: 100666 2/3 for a unit, 666 2/3 of it income. */
    private static void withThirds() {
        fresh();
        x.buy(0, 300, 0);
        x.endDay();
        x.income(2);
    }

    private static void roundedPrices() {
        edge("the middle price is rounded down", ROUNDED, () -> {
            withThirds();
            due("price(0)", x.price(0), 100666);
        });
        edge("the income of a unit is rounded down", ROUNDED, () -> {
            withThirds();
            due("price(3)", x.price(3), 666);
        });
        edge("a price that swings up is rounded down", ROUNDED, () -> {
            withThirds();
            x.buy(1, 1000, 0);
            // 101672.66
            due("price(1)", x.price(1), 101672);
        });
        edge("a price that swings down is rounded down", ROUNDED, () -> {
            withThirds();
            x.set(GATE, 1000);
            x.leave(0, 3, 0);
            x.set(SWING, 13);
            // 99357.342, and 1308.658 less than the middle price
            due("price(1)", x.price(1), 99357);
        });
        edge("what goes out is rounded down in the net flow", ROUNDED, () -> {
            withUnits();
            x.set(THRESHOLD, 0);
            x.income(9999);
            due("price(0)", x.price(0), 100999);
            x.leave(0, 1, 0);
            x.buy(2, 100, 0);
            due("price(1), 100 comes in and 100.999 goes out", x.price(1), 100999);
        });
    }

    private static void roundedUnits() {
        edge("the units that may leave are rounded down", ROUNDED, () -> {
            withUnits();
            x.inKind(0, 1);
            x.leave(0, 2000, 0);
            x.endDay();
            due("lastDay(1), of 999.9", x.lastDay(1), 999);
        });
        edge("an order's share is rounded down", ROUNDED, () -> {
            withUnits();
            x.leave(0, 3000, 0);
            x.leave(1, 1002, 0);
            x.endDay();
            // 749.6 and 250.4 of 1000; the first gets the one more
            dueOrder(1, 0, 0, 3000 - 750, 1);
            dueOrder(1, 1, 1, 1002 - 250, 1);
        });
        edge("what is paid for leaving is rounded down", ROUNDED, () -> {
            withUnits();
            x.income(9999);
            x.leave(0, 1, 0);
            x.endDay();
            due("ofHolder(0, 5), of 100.999", x.ofHolder(0, 5), 100);
            due("count(0)", x.count(0), 1009899);
        });
        edge("the units that are made are rounded down", ROUNDED, () -> {
            withUnits();
            x.buy(2, 199, 0);
            x.endDay();
            due("ofHolder(2, 0)", x.ofHolder(2, 0), 1);
            due("ofHolder(2, 4)", x.ofHolder(2, 4), 199);
            due("count(0)", x.count(0), 1000199);
        });
        edge("lots that are got in kind are rounded down", ROUNDED, () -> {
            withUnits();
            x.set(COST, 0);
            x.trade(500);
            due("inKind(0, 19), 0.95 lots", x.inKind(0, 19), 0);
            due("inKind(0, 59), 2.96 lots", x.inKind(0, 59), 2);
        });
        edge("cash that is got in kind is rounded down", ROUNDED, () -> {
            withUnits();
            x.income(9999);
            x.inKind(0, 19);
            due("ofHolder(0, 5), of 1918.998", x.ofHolder(0, 5), 1918);
            due("count(0)", x.count(0), 1009999 - 1918);
        });
    }

    /** Behind 98 units that were made for holder 2, with 147 for evening: 1500 each. */
    private static void withEvening() {
        withOldUnits();
        x.income(15000);
        x.buy(2, 10000, 0);
        x.endDay();
        due("count(5)", x.count(5), 98);
        due("count(7)", x.count(7), 147);
    }

    private static void roundedPools() {
        edge("the income of units that are made is rounded down", ROUNDED, () -> {
            withOldUnits();
            x.income(9999);
            x.buy(2, 300, 0);
            x.endDay();
            // 2 units, each with 999
            due("count(6)", x.count(6), 10000);
            due("count(7)", x.count(7), 1);
        });
        edge("the income of units that go is rounded down", ROUNDED, () -> {
            withOldUnits();
            x.income(9999);
            x.leave(0, 2, 0);
            x.endDay();
            due("count(6)", x.count(6), 9998);
        });
        edge("the evening of units that go is rounded down", ROUNDED, () -> {
            withEvening();
            x.leave(2, 1, 0);
            x.endDay();
            due("count(7)", x.count(7), 146);
        });
        edge("a payment is rounded down", ROUNDED, () -> {
            withThirds();
            due("pay(), of 1.998", x.pay(), 1);
            due("count(6)", x.count(6), 1);
            due("count(0)", x.count(0), 301);
        });
        edge("the evening of a payment is rounded down", ROUNDED, () -> {
            withEvening();
            x.leave(2, 1, 0);
            x.endDay();
            x.income(10000);
            x.pay();
            // 97 units with 1505 (of 1505.15), and 2490 for the income
            due("ofHolder(2, 7), of 145.985", x.ofHolder(2, 7), 145);
            due("ofHolder(2, 6), of 241.53", x.ofHolder(2, 6), 241);
        });
        edge("the evening of a unit is rounded down", ROUNDED, () -> {
            withOldUnits();
            x.income(10);
            x.set(THRESHOLD, 1000);
            x.buy(2, 100001, 0);
            x.buy(3, 100001, 0);
            x.buy(4, 50001, 0);
            x.endDay();
            // 1000, 1000 and 500 units, each with 1, so 1, 1 and 0 for evening: 0.8 for a unit
            due("count(5)", x.count(5), 2500);
            due("count(7)", x.count(7), 2);
            x.income(100000);
            x.pay();
            due("ofHolder(2, 6)", x.ofHolder(2, 6), 8000);
            due("ofHolder(2, 7)", x.ofHolder(2, 7), 0);
        });
    }

    private static void settings() {
        section("### Settings");
        rangeOf("CUT", CUT, "CUT (0 to 23; 12), an hour.", 23, 12);
        rangeOf("THRESHOLD", THRESHOLD, "THRESHOLD (0 to 1000; 50)", 1000, 50);
        rangeOf("SWING", SWING, "SWING (0 to 100; 10)", 100, 10);
        rangeOf("GATE", GATE, "GATE (0 to 1000; 100)", 1000, 100);
        rangeOf("COST", COST, "COST (0 to 50; 5), in thousandths.", 50, 5);
    }

    private static void rangeOf(String name, int setting, String sentence, int greatest, int first) {
        edge(name + " is too small", sentence, () -> {
            due("set -1", x.set(setting, -1), BAD_VALUE);
            due("set the least int", x.set(setting, LEAST), BAD_VALUE);
            due("the setting", x.count(12 + setting), first);
        });
        edge(name + " is too large", sentence, () -> {
            due("set " + (greatest + 1), x.set(setting, greatest + 1), BAD_VALUE);
            due("set the greatest int", x.set(setting, MOST), BAD_VALUE);
            due("the setting", x.count(12 + setting), first);
        });
        edge(name + " is the least", sentence, () -> {
            due("set 0", x.set(setting, 0), first);
            due("the setting", x.count(12 + setting), 0);
        });
        edge(name + " is the greatest", sentence, () -> {
            due("set " + greatest, x.set(setting, greatest), first);
            due("the setting", x.count(12 + setting), greatest);
        });
    }

    private static void trust() {
        section("### The trust");
        edge("no more than 1000 lots", "lots (0 to 1000)", () -> {
            withUnits();
            x.set(COST, 0);
            due("trade(1000)", x.trade(1000), 1000);
            x.income(1000000);
            x.quote(1);
            due("trade(1)", x.trade(1), TOO_MANY);
            due("count(1)", x.count(1), 1000);
        });
        edge("no fewer than 0 lots", "lots (0 to 1000)", () -> {
            withUnits();
            x.trade(3);
            due("trade(-4)", x.trade(-4), NOT_POSSIBLE);
            due("trade(-3)", x.trade(-3), 0);
            due("trade(-1)", x.trade(-1), NOT_POSSIBLE);
        });
        edge("the first quote", "a quote (the value of a lot, 1 to 10000; 1000 at first)", () ->
            due("count(2)", x.count(2), 1000));
        edge("the quote's range", "a quote (the value of a lot, 1 to 10000; 1000 at first)", () -> {
            due("quote(0)", x.quote(0), BAD_VALUE);
            due("quote(1)", x.quote(1), 1000);
            due("quote(10000)", x.quote(10000), 1);
            due("quote(10001)", x.quote(10001), BAD_VALUE);
        });
        edge("the first and the last holder", "There are 6 holders, 0 to 5", () -> {
            due("ofHolder(-1, 0)", x.ofHolder(-1, 0), NO_SUCH);
            due("ofHolder(0, 0)", x.ofHolder(0, 0), 0);
            due("ofHolder(5, 0)", x.ofHolder(5, 0), 0);
            due("ofHolder(6, 0)", x.ofHolder(6, 0), NO_SUCH);
        });
        edge("the middle price of a new trust", "otherwise it is 100000", () ->
            due("price(0)", x.price(0), 100000));
        edge("the middle price when all have left, with cash", "otherwise it is 100000", () -> {
            withUnits();
            x.set(GATE, 1000);
            x.set(SWING, 100);
            x.leave(0, 6000, 0);
            x.leave(1, 4000, 0);
            x.endDay();
            due("price(2)", x.price(2), 90000);
            due("count(4)", x.count(4), 0);
            due("count(3)", x.count(3), 100000);
            due("price(0)", x.price(0), 100000);
        });
        edge("the middle price of one unit", "If there are units in issue, the middle price is 1000 * the value / the units in issue", () -> {
            x.buy(0, 199, 0);
            x.endDay();
            due("count(4)", x.count(4), 1);
            due("price(0)", x.price(0), 199000);
        });
        edge("the middle price of units without value", "If there are units in issue, the middle price is 1000 * the value / the units in issue", () -> {
            withUnits();
            x.set(COST, 0);
            x.quote(10000);
            x.trade(100);
            x.set(COST, 50);
            x.quote(1);
            due("trade(-100), for nothing", x.trade(-100), 0);
            due("count(3)", x.count(3), 0);
            due("count(4)", x.count(4), 10000);
            due("price(0)", x.price(0), 0);
        });
    }

    private static void costs() {
        String bought = "A lot that is bought costs the quote and COST thousandths of it (these rounded up)";
        String sold = "one that is sold brings the quote less as much.";
        edge("a part of a cent is a cent when a lot is bought", bought, () -> {
            dueTrade(1, 201, 5, -203);
            dueTrade(1, 1, 1, -2);
            dueTrade(1, 999, 1, -1000);
            dueTrade(1, 9999, 50, -9999 - 500);
        });
        edge("whole cents are not rounded when a lot is bought", bought, () -> {
            dueTrade(1, 200, 5, -201);
            dueTrade(1, 10000, 50, -10500);
        });
        edge("no COST for a lot that is bought", bought, () -> dueTrade(1, 777, 0, -777));
        edge("each lot that is bought is rounded up", bought, () -> dueTrade(100, 1, 5, -200));
        edge("a part of a cent is a cent when a lot is sold", sold, () -> {
            dueTrade(-1, 201, 5, 199);
            dueTrade(-1, 9999, 50, 9999 - 500);
        });
        edge("whole cents are not rounded when a lot is sold", sold, () -> dueTrade(-1, 200, 5, 199));
        edge("no COST for a lot that is sold", sold, () -> dueTrade(-1, 777, 0, 777));
        edge("each lot that is sold is rounded", sold, () -> dueTrade(-100, 1001, 1, 99900));
        edge("a lot that is sold may bring nothing", sold, () -> dueTrade(-100, 1, 1, 0));
        edge("a lot that is sold at the end of a day is rounded", sold, () -> {
            withUnits();
            x.quote(1001);
            x.trade(900);
            due("count(0)", x.count(0), 93700);
            x.leave(0, 1000, 0);
            x.endDay();
            // 98465 are paid; a lot brings 995
            due("price(2)", x.price(2), 98465);
            due("lastDay(2)", x.lastDay(2), 5);
            due("count(0)", x.count(0), 93700 + 4975 - 98465);
        });
    }

    private static void dueTrade(int lots, int quote, int cost, int more) {
        withUnits();
        x.set(COST, 0);
        x.trade(100);
        x.quote(quote);
        x.set(COST, cost);
        due("trade(" + lots + ")", x.trade(lots), 100 + lots);
        due("count(0) at " + quote + " with " + cost, x.count(0), 900000 + more);
    }

    private static void pools() {
        section("### Income");
        edge("the first income pool", "The income pool is a part of the cash (0 at first)", () -> {
            due("count(6)", x.count(6), 0);
            due("price(3)", x.price(3), 0);
        });
        edge("the first evening pool", "the evening pool is a number, too (0 at first).", () ->
            due("count(7)", x.count(7), 0));
        edge("the income of a unit without units, with a pool", "(0 without units)", () -> {
            withUnits();
            x.income(19999);
            x.set(GATE, 1000);
            x.set(SWING, 0);
            x.leave(0, 6000, 0);
            x.leave(1, 4000, 0);
            x.endDay();
            // 19990 have gone with the units, at 101999
            due("count(4)", x.count(4), 0);
            due("count(6)", x.count(6), 9);
            due("price(3)", x.price(3), 0);
            x.buy(2, 100000, 0);
            x.endDay();
            due("ofHolder(2, 2)", x.ofHolder(2, 2), 1000);
            due("count(6)", x.count(6), 9);
            due("count(7)", x.count(7), 0);
        });
        edge("the income of a unit when the day's end began", "(as it was at the beginning of the day's end)", () -> {
            withOldUnits();
            x.income(20000);
            x.set(GATE, 1000);
            x.set(THRESHOLD, 1000);
            x.set(COST, 0);
            x.trade(1000);
            x.quote(1);
            // 20000 in cash, 2100 the middle price; who leaves takes 2100, and the pool has 17900 at the most
            x.leave(0, 1000, 0);
            x.buy(2, 2100, 0);
            x.buy(3, 210, 0);
            x.endDay();
            due("ofHolder(2, 2)", x.ofHolder(2, 2), 1000);
            due("ofHolder(3, 2)", x.ofHolder(3, 2), 100);
            due("count(7), 1100 times 2000", x.count(7), 2200);
            due("count(6)", x.count(6), 17900 + 2200);
        });
        edge("the income of a unit in kind is that of now", "the income pool becomes less by u * that income of a unit / 1000", () -> {
            withOldUnits();
            x.income(20000);
            x.endDay();
            x.income(10000);
            x.inKind(0, 1000);
            due("count(6)", x.count(6), 27000);
        });
    }

    private static void goingUnits() {
        edge("the income pool is not below 0", "but not below 0", () -> {
            withUnits();
            x.set(GATE, 1000);
            x.set(THRESHOLD, 1000);
            x.trade(994);
            x.income(50000);
            x.leave(0, 400, 0);
            x.leave(1, 2000, 0);
            x.endDay();
            // 9229 are in the pool behind the first; the second takes 2000 times 5000, and 218 are left in cash
            due("lastDay(1)", x.lastDay(1), 2400);
            due("count(0)", x.count(0), 218);
            due("count(6)", x.count(6), 0);
        });
        edge("income beyond the ints goes on the way", "the income pool becomes less by u * that income of a unit / 1000", () -> {
            withOldUnits();
            for (int i = 0; i < 5; i++) {
                x.income(1000000);
            }
            x.inKind(0, 6000);
            due("count(6)", x.count(6), 2000000);
        });
        String oldFirst = "When u units of a holder go, old ones go first";
        edge("one fewer than the old units go", oldFirst, () -> dueOldFirst(5999, 1, 10));
        edge("as many as the old units go", oldFirst, () -> dueOldFirst(6000, 0, 10));
        edge("one more than the old units go", oldFirst, () -> dueOldFirst(6001, 0, 9));
        edge("all units of a holder go", oldFirst, () -> dueOldFirst(6010, 0, 0));
        edge("old units go first in kind, too", oldFirst, () -> {
            withOldUnits();
            x.buy(0, 1000, 0);
            x.endDay();
            x.inKind(0, 6003);
            due("ofHolder(0, 1)", x.ofHolder(0, 1), 0);
            due("ofHolder(0, 2)", x.ofHolder(0, 2), 7);
        });
        String evening = "if v of them are new ones, the evening pool becomes less by v * the evening pool / all new units, as they are ahead of that.";
        edge("evening beyond the ints goes on the way", evening, () -> {
            withMuchEvening();
            x.inKind(2, 10000);
            due("count(7)", x.count(7), 1500000);
        });
        edge("no evening goes with old units", evening, () -> {
            withEvening();
            x.leave(0, 900, 0);
            x.endDay();
            due("lastDay(1)", x.lastDay(1), 900);
            due("count(7)", x.count(7), 147);
        });
        edge("evening goes as the new units are ahead of that", evening, () -> {
            withEvening();
            x.leave(2, 49, 0);
            x.endDay();
            due("count(7), of 73.5 less", x.count(7), 147 - 73);
            due("count(5)", x.count(5), 49);
        });
        edge("all evening goes with all new units", evening, () -> {
            withEvening();
            x.leave(2, 98, 0);
            x.endDay();
            due("count(7)", x.count(7), 0);
            due("count(5)", x.count(5), 0);
        });
        edge("all new units are those of all holders", evening, () -> {
            withOldUnits();
            x.income(15000);
            x.buy(2, 10000, 0);
            x.buy(3, 10000, 0);
            x.endDay();
            x.inKind(2, 98);
            due("count(7)", x.count(7), 147);
        });
        edge("the evening of the only new unit goes", evening, () -> {
            withOldUnits();
            x.income(20000);
            x.buy(2, 102, 0);
            x.endDay();
            due("count(5)", x.count(5), 1);
            due("count(7)", x.count(7), 2);
            x.leave(2, 1, 0);
            x.endDay();
            due("count(5)", x.count(5), 0);
            due("count(7)", x.count(7), 0);
        });
        edge("new units without evening go", evening, () -> {
            withUnits();
            x.leave(0, 500, 0);
            x.endDay();
            due("count(5)", x.count(5), 9500);
            due("count(7)", x.count(7), 0);
        });
    }

    private static void dueOldFirst(int units, int oldUnits, int newUnits) {
        withOldUnits();
        x.set(GATE, 1000);
        x.buy(0, 1000, 0);
        x.endDay();
        x.leave(0, units, 0);
        x.endDay();
        due("ofHolder(0, 0)", x.ofHolder(0, 0), oldUnits + newUnits);
        due("ofHolder(0, 1)", x.ofHolder(0, 1), oldUnits);
        due("ofHolder(0, 2)", x.ofHolder(0, 2), newUnits);
    }

    /** 10000 old units and 1000 lots at 1; all cash is income: 100000, with 10000 for a unit. */
    private static void withIncomeOnly() {
        withOldUnits();
        x.set(COST, 0);
        x.trade(1000);
        x.quote(1);
        x.income(100000);
        x.set(GATE, 1000);
    }

    private static void cappedPool() {
        String capped = "the income pool becomes as much as the cash, if it is above it.";
        edge("the income pool is above the cash behind a making", capped, () -> {
            withIncomeOnly();
            x.set(THRESHOLD, 0);
            x.set(SWING, 100);
            x.leave(0, 1000, 0);
            x.buy(2, 10000, 0);
            x.endDay();
            // 9090 is the price: 90910 in cash and 90000 in the pool; then 1100 units for 10000, with 11000 for evening
            due("price(2)", x.price(2), 9090);
            due("count(7)", x.count(7), 11000);
            due("count(0)", x.count(0), 100910);
            due("count(6)", x.count(6), 100910);
        });
        edge("the income pool is above the cash behind a going", capped, () -> {
            withIncomeOnly();
            x.set(SWING, 0);
            x.leave(0, 1000, 0);
            x.endDay();
            // 10100 are paid, 10000 of them from the pool
            due("count(0)", x.count(0), 89900);
            due("count(6)", x.count(6), 89900);
        });
        edge("the income pool is above the cash behind each of several goings", capped, () -> {
            withIncomeOnly();
            x.set(SWING, 0);
            x.leave(0, 1000, 0);
            x.leave(1, 1000, 0);
            x.buy(2, 10100, 0);
            x.endDay();
            // 89900, then 79800; the units that are made bring 10000 to the pool and 10100 to the cash
            due("count(0)", x.count(0), 89900);
            due("count(6)", x.count(6), 89800);
        });
        edge("the income pool is above the cash behind a going in kind", capped, () -> {
            withIncomeOnly();
            x.pay();
            x.income(19999);
            x.inKind(0, 5000);
            // 9999 of 9999.5 are paid, 9995 of them from the pool
            due("count(0)", x.count(0), 10000);
            due("count(6)", x.count(6), 10000);
        });
        edge("the income pool is as much as the cash", capped, () -> {
            withIncomeOnly();
            due("count(0)", x.count(0), 100000);
            due("count(6)", x.count(6), 100000);
            x.endDay();
            due("count(6)", x.count(6), 100000);
        });
    }

    private static void payments() {
        String evening = "and e for 1000 * the evening pool / all new units (0 without new units)";
        edge("a payment without new units", evening, () -> {
            withOldUnits();
            x.income(10000);
            due("pay()", x.pay(), 10000);
            due("ofHolder(0, 6)", x.ofHolder(0, 6), 6000);
            due("ofHolder(0, 7)", x.ofHolder(0, 7), 0);
        });
        edge("a payment with one new unit", evening, () -> {
            withOldUnits();
            x.income(20000);
            x.buy(2, 102, 0);
            x.endDay();
            x.pay();
            due("ofHolder(2, 6)", x.ofHolder(2, 6), 2);
            due("ofHolder(2, 7)", x.ofHolder(2, 7), 2);
        });
        edge("a payment without units", evening, () -> {
            due("pay()", x.pay(), 0);
            due("count(0)", x.count(0), 0);
        });
        String atMost = "but not more than that payment, is evening.";
        edge("evening is as much as the payment", atMost, () -> {
            withEvening();
            x.pay();
            due("ofHolder(2, 6)", x.ofHolder(2, 6), 147);
            due("ofHolder(2, 7)", x.ofHolder(2, 7), 147);
        });
        edge("evening would be more than the payment", atMost, () -> {
            withOldUnits();
            x.income(20000);
            x.buy(2, 10000, 0);
            x.endDay();
            x.set(GATE, 1000);
            x.set(SWING, 0);
            x.set(COST, 0);
            x.quote(1009);
            x.trade(1000);
            x.quote(1);
            x.leave(0, 5000, 0);
            x.endDay();
            // 10110 are in the pool, 1983 for a unit; but 2000 for evening
            due("count(7)", x.count(7), 196);
            x.pay();
            due("ofHolder(2, 6)", x.ofHolder(2, 6), 194);
            due("ofHolder(2, 7)", x.ofHolder(2, 7), 194);
        });
        edge("evening is less than the payment of old and new units", atMost, () -> {
            withOldUnits();
            x.income(20000);
            x.buy(0, 10000, 0);
            x.endDay();
            x.pay();
            due("ofHolder(0, 6)", x.ofHolder(0, 6), 12196);
            due("ofHolder(0, 7)", x.ofHolder(0, 7), 196);
        });
        String then = "the evening pool is 0 then, and all units are old ones.";
        edge("all units are old behind a payment of nothing", then, () -> {
            withUnits();
            due("pay()", x.pay(), 0);
            due("count(5)", x.count(5), 0);
            due("ofHolder(0, 1)", x.ofHolder(0, 1), 6000);
            due("ofHolder(1, 1)", x.ofHolder(1, 1), 4000);
        });
        edge("the evening pool is 0 behind a payment", then, () -> {
            withEvening();
            x.pay();
            due("count(7)", x.count(7), 0);
            due("count(5)", x.count(5), 0);
            due("ofHolder(2, 1)", x.ofHolder(2, 1), 98);
        });
        edge("the evening pool is 0, though not all of it was paid", then, () -> {
            withEvening();
            x.leave(2, 1, 0);
            x.endDay();
            x.pay();
            due("ofHolder(2, 7), of 146", x.ofHolder(2, 7), 145);
            due("count(7)", x.count(7), 0);
        });
        edge("what can't be shared stays in the pool", "Cash and income pool become less by all payments", () -> {
            withUnits();
            x.income(19);
            due("pay(), 1 of 1.9 for a unit", x.pay(), 6 + 4);
            due("count(6)", x.count(6), 9);
            due("count(0)", x.count(0), 1000009);
        });
    }

    private static void daysOfOrders() {
        section("### Income");
        String amounts = "An order to buy has a holder and an amount (1 to 1000000)";
        edge("the least amount", amounts, () -> {
            due("buy(0, 0, 0)", x.buy(0, 0, 0), BAD_VALUE);
            due("buy(0, 1, 0)", x.buy(0, 1, 0), 0);
        });
        edge("the greatest amount", amounts, () -> {
            due("buy(0, 1000001, 0)", x.buy(0, 1000001, 0), BAD_VALUE);
            due("buy(0, 1000000, 0)", x.buy(0, 1000000, 0), 0);
        });
        String days = "An order has a day: the day of now if its hour is before CUT, otherwise the next one.";
        edge("the last hour before CUT", days, () -> {
            withUnits();
            due("buy(0, 1, 11)", x.buy(0, 1, 11), 1);
            due("leave(0, 1, 11)", x.leave(0, 1, 11), 1);
        });
        edge("the hour of CUT", days, () -> {
            withUnits();
            due("buy(0, 1, 12)", x.buy(0, 1, 12), 2);
            due("leave(0, 1, 12)", x.leave(0, 1, 12), 2);
        });
        edge("no hour is before a CUT of 0", days, () -> {
            withUnits();
            x.set(CUT, 0);
            due("buy(0, 1, 0)", x.buy(0, 1, 0), 2);
            due("leave(0, 1, 0)", x.leave(0, 1, 0), 2);
        });
        edge("all hours but one are before a CUT of 23", days, () -> {
            withUnits();
            x.set(CUT, 23);
            due("buy(0, 1, 22)", x.buy(0, 1, 22), 1);
            due("buy(0, 1, 23)", x.buy(0, 1, 23), 2);
            due("leave(0, 1, 22)", x.leave(0, 1, 22), 1);
            due("leave(0, 1, 23)", x.leave(0, 1, 23), 2);
        });
        edge("an order keeps its day when CUT changes", days, () -> {
            x.buy(0, 100, 12);
            x.set(CUT, 23);
            dueOrder(0, 0, 0, 100, 1);
            x.endDay();
            due("count(9)", x.count(9), 1);
        });
    }

    private static void rowsOfOrders() {
        String most = "There are up to 20 orders of each kind that are not done";
        edge("the 21st order to buy", most, () -> {
            for (int i = 0; i < 20; i++) {
                due("buy " + i, x.buy(0, 100, 0), 0);
            }
            due("buy 20", x.buy(0, 100, 0), TOO_MANY);
            due("count(9)", x.count(9), 20);
        });
        edge("the 21st order to leave", most, () -> {
            withUnits();
            for (int i = 0; i < 20; i++) {
                due("leave " + i, x.leave(0, 1, 0), 1);
            }
            due("leave 20", x.leave(0, 1, 0), TOO_MANY);
            due("count(10)", x.count(10), 20);
        });
        edge("20 orders of one kind leave the other one free", most, () -> {
            withUnits();
            for (int i = 0; i < 20; i++) {
                x.buy(0, 100, 12);
            }
            due("leave(0, 1, 0)", x.leave(0, 1, 0), 1);
            for (int i = 0; i < 19; i++) {
                x.leave(0, 1, 12);
            }
            x.endDay();
            due("count(9)", x.count(9), 20);
            x.endDay();
            due("buy(0, 1, 0)", x.buy(0, 1, 0), 3);
        });
        edge("orders to buy that are done make room", most, () -> {
            for (int i = 0; i < 20; i++) {
                x.buy(0, 100, i < 1 ? 0 : 12);
            }
            x.endDay();
            due("buy(0, 1, 0)", x.buy(0, 1, 0), 1);
            due("buy(0, 1, 0)", x.buy(0, 1, 0), TOO_MANY);
        });
        edge("orders to leave that are paid in part make no room", most, () -> {
            withUnits();
            for (int i = 0; i < 20; i++) {
                x.leave(0, 100, 0);
            }
            x.endDay();
            due("lastDay(1)", x.lastDay(1), 1000);
            due("count(10)", x.count(10), 20);
            due("leave(0, 1, 0)", x.leave(0, 1, 0), TOO_MANY);
            x.set(GATE, 1000);
            x.endDay();
            due("count(10)", x.count(10), 0);
            due("leave(0, 1, 0)", x.leave(0, 1, 0), 3);
        });
        String rows = "they are in the order of their days, of several in the order in which they were made.";
        edge("orders of two days, in turn", rows, () -> {
            withUnits();
            int[] hours = {12, 0, 13, 1, 23, 11};
            for (int i = 0; i < 6; i++) {
                x.buy(i, 10 + i, hours[i]);
                x.leave(i % 2, 20 + i, hours[i]);
            }
            int[] row = {1, 3, 5, 0, 2, 4};
            for (int i = 0; i < 6; i++) {
                dueOrder(0, i, row[i], 10 + row[i], i < 3 ? 1 : 2);
                dueOrder(1, i, row[i] % 2, 20 + row[i], i < 3 ? 1 : 2);
            }
        });
        edge("an order that waits goes ahead of a new one", rows, () -> {
            withUnits();
            x.set(GATE, 0);
            x.leave(0, 50, 0);
            x.endDay();
            x.leave(1, 60, 0);
            dueOrder(1, 0, 0, 50, 1);
            dueOrder(1, 1, 1, 60, 2);
        });
        edge("an order of yesterday for today goes ahead of one of today", rows, () -> {
            withUnits();
            x.leave(0, 50, 12);
            x.buy(0, 50, 12);
            x.endDay();
            x.leave(1, 60, 0);
            x.buy(1, 60, 0);
            dueOrder(1, 0, 0, 50, 2);
            dueOrder(1, 1, 1, 60, 2);
            dueOrder(0, 0, 0, 50, 2);
            dueOrder(0, 1, 1, 60, 2);
        });
        String bound = "The units of a holder that are in orders to leave are bound.";
        edge("units in orders of later days are bound", bound, () -> {
            withUnits();
            x.leave(0, 5, 0);
            x.leave(0, 7, 23);
            x.leave(1, 9, 0);
            due("ofHolder(0, 3)", x.ofHolder(0, 3), 12);
            due("ofHolder(1, 3)", x.ofHolder(1, 3), 9);
            due("ofHolder(2, 3)", x.ofHolder(2, 3), 0);
        });
        edge("what still waits is bound", bound, () -> {
            withUnits();
            x.leave(0, 3000, 0);
            x.endDay();
            due("ofHolder(0, 3)", x.ofHolder(0, 3), 2000);
            due("leave(0, 3001, 0)", x.leave(0, 3001, 0), NOT_POSSIBLE);
            due("leave(0, 3000, 0)", x.leave(0, 3000, 0), 2);
        });
    }
}
