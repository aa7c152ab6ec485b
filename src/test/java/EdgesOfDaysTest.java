/** The edges that the document names for the end of a day, step by step. */
public final class EdgesOfDaysTest extends Edges {
    public static void main(String[] args) {
        Check.watch();
        run();
        CHECK.end("EdgesOfDaysTest");
    }

    static void run() {
        section("### Income");
        whatComesIn();
        whatMayLeave();
        netFlow();
        bigFlow();
        priceOfTheDay();
        sharesOfADay();
        sharesOfSeveralDays();
        soMuchCash();
        tooLittleCash();
        ordersThatArePaid();
        unitsThatAreMade();
        mostUnits();
        theNextDay();
    }

    private static void whatComesIn() {
        String comesIn = "The amount that comes in is the sum of the orders to buy with a day that is not later.";
        edge("an order to buy of this day comes in", comesIn, () -> {
            withUnits();
            x.buy(2, 50001, 11);
            due("price(1)", x.price(1), 101000);
            x.endDay();
            due("lastDay(0)", x.lastDay(0), 495);
            due("count(9)", x.count(9), 0);
        });
        edge("an order to buy of the next day doesn't come in", comesIn, () -> {
            withUnits();
            x.buy(2, 50001, 12);
            due("price(1)", x.price(1), 100000);
            x.endDay();
            due("lastDay(0)", x.lastDay(0), 0);
            dueOrder(0, 0, 2, 50001, 2);
            due("price(1)", x.price(1), 101000);
        });
        edge("several orders come in", comesIn, () -> {
            withUnits();
            x.buy(2, 50000, 0);
            due("price(1)", x.price(1), 100000);
            x.buy(3, 1, 0);
            due("price(1)", x.price(1), 101000);
        });
    }

    private static void whatMayLeave() {
        String want = "The units that want to leave are those in the orders to leave with a day that is not later";
        edge("an order to leave of this day wants to leave", want, () -> {
            withUnits();
            x.leave(0, 7, 11);
            x.endDay();
            dueDay(0, 7, 0, 2, 0, 0);
        });
        edge("an order to leave of the next day doesn't want to leave", want, () -> {
            withUnits();
            x.leave(0, 7, 12);
            x.endDay();
            dueDay(0, 0, 0, 2, 0, 0);
            x.endDay();
            dueDay(0, 7, 0, 2, 0, 0);
        });
        edge("an order to leave of an earlier day wants to leave", want, () -> {
            withUnits();
            x.set(GATE, 0);
            x.leave(0, 7, 0);
            x.endDay();
            dueDay(0, 0, 0, 2, 7, 0);
            x.endDay();
            x.set(GATE, 100);
            x.endDay();
            dueDay(0, 7, 0, 2, 0, 0);
        });
        String may = "the units that may leave are these, but at most GATE * the units in issue / 1000.";
        edge("as many units want to leave as may", may, () -> {
            withUnits();
            x.leave(0, 1000, 0);
            x.endDay();
            dueDay(0, 1000, 0, 1, 0, 0);
            due("count(10)", x.count(10), 0);
        });
        edge("one unit more wants to leave than may", may, () -> {
            withUnits();
            x.leave(0, 1001, 0);
            x.endDay();
            dueDay(0, 1000, 0, 1, 1, 0);
            dueOrder(1, 0, 0, 1, 1);
        });
        edge("fewer units want to leave than may", may, () -> {
            withUnits();
            x.leave(0, 999, 0);
            x.endDay();
            dueDay(0, 999, 0, 1, 0, 0);
        });
        edge("a GATE of 0 lets nobody out", may, () -> {
            withUnits();
            x.set(GATE, 0);
            x.leave(0, 1000, 0);
            x.endDay();
            dueDay(0, 0, 0, 2, 1000, 0);
            dueOrder(1, 0, 0, 1000, 1);
        });
        edge("a GATE of 1000 lets all out", may, () -> {
            withUnits();
            x.set(GATE, 1000);
            x.leave(0, 6000, 0);
            x.leave(1, 4000, 0);
            x.endDay();
            dueDay(0, 10000, 0, 1, 0, 0);
            due("count(4)", x.count(4), 0);
        });
        edge("a GATE of a part of a unit lets nobody out", may, () -> {
            x.buy(0, 900, 0);
            x.endDay();
            x.leave(0, 9, 0);
            x.endDay();
            dueDay(0, 0, 0, 2, 9, 0);
        });
        edge("a GATE of a thousand million units", may, () -> {
            withMostUnits();
            x.leave(2, 900000000, 0);
            x.endDay();
            due("lastDay(1)", x.lastDay(1), 100000000);
            dueOrder(1, 0, 2, 800000000, 2);
        });
    }

    private static void netFlow() {
        String above = "If it is above 0, and 1000 times it is above THRESHOLD * the value";
        edge("the net flow is at the threshold above 0", above, () -> dueFlow(50, 50000, 0, 100000, 2));
        edge("the net flow is a cent beyond the threshold above 0", above, () -> dueFlow(50, 50001, 0, 101000, 3));
        edge("the net flow is at a threshold of all the value", above, () -> dueFlow(1000, 1000000, 0, 100000, 2));
        edge("the net flow is a cent above a threshold of 0", above, () -> dueFlow(0, 1, 0, 101000, 3));
        String below = "if it is below 0, and 1000 times it is below -THRESHOLD * the value";
        edge("the net flow is at the threshold below 0", below, () -> dueFlow(50, 0, 500, 100000, 2));
        edge("the net flow is a cent beyond the threshold below 0", below, () -> dueFlow(50, 99, 501, 99000, 1));
        edge("the net flow is at the threshold below 0, of both sides", below, () -> dueFlow(50, 100, 501, 100000, 2));
        edge("the net flow is a cent below a threshold of 0", below, () -> dueFlow(0, 99, 1, 99000, 1));
        edge("the net flow is at a threshold of all the value below 0", below, () -> dueFlow(1000, 0, 10000, 100000, 2));
        edge("the net flow is 0 at a threshold of 0", "otherwise the middle price.", () -> dueFlow(0, 100, 1, 100000, 2));
        edge("nothing flows at a threshold of 0", "otherwise the middle price.", () -> dueFlow(0, 0, 0, 100000, 2));
        edge("a cent beyond a threshold of all the value", above, () -> {
            withUnits();
            x.set(THRESHOLD, 1000);
            x.buy(2, 1000000, 0);
            due("price(1)", x.price(1), 100000);
            x.buy(2, 1, 0);
            due("price(1)", x.price(1), 101000);
        });
        String flow = "The net flow is the amount that comes in, less the units that may leave * the middle price / 1000.";
        edge("units that may not leave don't count for the net flow", flow, () -> {
            withUnits();
            x.set(GATE, 50);
            x.leave(0, 6000, 0);
            due("price(1), 500 may leave", x.price(1), 100000);
            x.set(GATE, 51);
            due("price(1), 510 may leave", x.price(1), 99000);
            x.set(GATE, 0);
            x.buy(2, 50001, 0);
            due("price(1), nobody may leave", x.price(1), 101000);
        });
        edge("a net flow beyond the ints", flow, () -> {
            withUnits();
            for (int i = 0; i < 20; i++) {
                x.buy(2, 1000000, 0);
            }
            due("price(1)", x.price(1), 101000);
            x.set(THRESHOLD, 1000);
            due("price(1)", x.price(1), 101000);
        });
    }

    private static void bigFlow() {
        edge("a threshold beyond the ints", "1000 times it is above THRESHOLD * the value", () -> {
            withUnits();
            x.set(THRESHOLD, 1000);
            for (int i = 0; i < 3; i++) {
                x.income(1000000);
            }
            for (int i = 0; i < 4; i++) {
                x.buy(2, 1000000, 0);
                due("price(1), of 4000000", x.price(1), 400000);
            }
            x.buy(2, 1, 0);
            due("price(1)", x.price(1), 404000);
        });
        edge("what goes out is beyond the ints on the way", "less the units that may leave * the middle price / 1000.", () -> {
            withUnits();
            x.set(GATE, 1000);
            for (int i = 0; i < 3; i++) {
                x.income(1000000);
            }
            x.leave(0, 6000, 0);
            x.leave(1, 4000, 0);
            due("price(1)", x.price(1), 396000);
        });
    }

    private static void dueFlow(int threshold, int amount, int units, int price, int swung) {
        withUnits();
        x.set(THRESHOLD, threshold);
        x.set(GATE, 1000);
        x.buy(2, amount, 0);
        x.leave(0, Math.min(units, 6000), 0);
        x.leave(1, units - 6000, 0);
        due("price(1)", x.price(1), price);
        x.endDay();
        due("price(2)", x.price(2), price);
        due("lastDay(3)", x.lastDay(3), swung);
    }

    private static void priceOfTheDay() {
        edge("the price without units", "Without units in issue it is the middle price.", () -> {
            x.set(THRESHOLD, 0);
            x.set(SWING, 100);
            x.buy(0, 1000000, 0);
            due("price(1)", x.price(1), 100000);
            x.endDay();
            due("price(2)", x.price(2), 100000);
            due("lastDay(3)", x.lastDay(3), 2);
            due("ofHolder(0, 0)", x.ofHolder(0, 0), 10000);
        });
        edge("the price when all have left, with cash", "Without units in issue it is the middle price.", () -> {
            withUnits();
            x.set(GATE, 1000);
            x.set(SWING, 100);
            x.leave(0, 6000, 0);
            x.leave(1, 4000, 0);
            x.endDay();
            due("count(0)", x.count(0), 100000);
            x.buy(2, 1000000, 0);
            due("price(1)", x.price(1), 100000);
            x.endDay();
            due("lastDay(3)", x.lastDay(3), 2);
            due("ofHolder(2, 0)", x.ofHolder(2, 0), 10000);
        });
        String swing = "(1000 + SWING or 1000 - SWING times the middle price, / 1000.)";
        edge("the greatest SWING up", swing, () -> {
            withUnits();
            x.set(SWING, 100);
            x.buy(2, 50001, 0);
            due("price(1)", x.price(1), 110000);
        });
        edge("the greatest SWING down", swing, () -> {
            withUnits();
            x.set(SWING, 100);
            x.leave(0, 1000, 0);
            due("price(1)", x.price(1), 90000);
        });
        edge("a SWING of 0", swing, () -> {
            withUnits();
            x.set(SWING, 0);
            x.buy(2, 50001, 0);
            due("price(1)", x.price(1), 100000);
            x.undo();
            x.leave(0, 1000, 0);
            due("price(1)", x.price(1), 100000);
        });
        edge("a SWING of less than a thousandth", swing, () -> {
            withPennies();
            x.buy(2, 1000, 0);
            due("price(1), 10.1", x.price(1), 10);
            x.undo();
            x.leave(0, 1000, 0);
            due("price(1), 9.9", x.price(1), 9);
        });
        edge("the price is that of the day's beginning for all", "The middle price and the income of a unit are taken.", () -> {
            withUnits();
            x.buy(2, 50001, 0);
            x.buy(3, 101000, 0);
            x.leave(0, 1, 0);
            x.leave(1, 1, 0);
            x.endDay();
            due("ofHolder(0, 5)", x.ofHolder(0, 5), 101);
            due("ofHolder(1, 5)", x.ofHolder(1, 5), 101);
            due("ofHolder(2, 0)", x.ofHolder(2, 0), 495);
            due("ofHolder(3, 0)", x.ofHolder(3, 0), 1000);
        });
    }

    private static void sharesOfADay() {
        String whole = "if those of a day together are no more than what is left to share out, all of them leave whole";
        edge("those of a day are as many as may leave", whole, () -> {
            withUnits();
            x.leave(0, 700, 0);
            x.leave(1, 300, 0);
            x.endDay();
            due("count(10)", x.count(10), 0);
            due("ofHolder(0, 0)", x.ofHolder(0, 0), 5300);
            due("ofHolder(1, 0)", x.ofHolder(1, 0), 3700);
        });
        edge("those of a day are one more than may leave", whole, () -> {
            withUnits();
            x.leave(0, 701, 0);
            x.leave(1, 300, 0);
            x.endDay();
            // 700.3 and 299.7; the first gets the one more
            due("count(10)", x.count(10), 1);
            dueOrder(1, 0, 1, 1, 1);
        });
        String more = "then those that still have some, in their order, one unit more each, until all is shared out";
        edge("nothing is left to be shared out one by one", more, () -> {
            withUnits();
            x.leave(0, 3000, 0);
            x.leave(1, 1000, 0);
            x.endDay();
            dueOrder(1, 0, 0, 2250, 1);
            dueOrder(1, 1, 1, 750, 1);
        });
        edge("one unit is left for the first", more, () -> {
            withUnits();
            x.leave(1, 999, 0);
            x.leave(0, 3000, 0);
            x.endDay();
            // 249.8 and 750.2
            dueOrder(1, 0, 1, 999 - 250, 1);
            dueOrder(1, 1, 0, 3000 - 750, 1);
        });
        edge("a unit is left for each but the last", more, () -> {
            withUnits();
            for (int i = 0; i < 3; i++) {
                x.leave(i % 2, 500, 0);
            }
            x.set(GATE, 20);
            x.endDay();
            // 66.7 each: 67, 67, 66
            dueOrder(1, 0, 0, 433, 1);
            dueOrder(1, 1, 1, 433, 1);
            dueOrder(1, 2, 0, 434, 1);
        });
        edge("an order whose share is 0 gets one unit more", more, () -> {
            withUnits();
            x.leave(1, 1, 0);
            x.leave(0, 3000, 0);
            x.endDay();
            // 0.3 and 999.7
            due("count(10)", x.count(10), 1);
            dueOrder(1, 0, 0, 3000 - 999, 1);
        });
        edge("more orders than units to share out", more, () -> {
            withUnits();
            x.set(GATE, 1);
            for (int i = 0; i < 11; i++) {
                x.leave(0, 1, 0);
            }
            x.leave(1, 1, 0);
            x.endDay();
            due("lastDay(1)", x.lastDay(1), 10);
            due("count(10)", x.count(10), 2);
            dueOrder(1, 0, 0, 1, 1);
            dueOrder(1, 1, 1, 1, 1);
        });
        edge("20 orders of a day", more, () -> {
            withUnits();
            for (int i = 0; i < 20; i++) {
                x.leave(i % 2, 100, 0);
            }
            x.set(GATE, 99);
            x.endDay();
            // 49.5 each of 990: 50 for ten of them
            due("lastDay(1)", x.lastDay(1), 990);
            dueOrder(1, 9, 1, 50, 1);
            dueOrder(1, 10, 0, 51, 1);
            dueOrder(1, 19, 1, 51, 1);
        });
        edge("shares beyond the ints", "each of them gets its units * what is left / the units of all orders of this day", () -> {
            withMostUnits();
            x.leave(2, 600000000, 0);
            x.leave(2, 300000000, 0);
            x.endDay();
            // 66666666.7 and 33333333.3 of 100000000
            dueOrder(1, 0, 2, 600000000 - 66666667, 2);
            dueOrder(1, 1, 2, 300000000 - 33333333, 2);
        });
    }

    private static void sharesOfSeveralDays() {
        String days = "The units that may leave are shared out to the orders to leave day by day";
        edge("an earlier day leaves whole, a later one gets the rest", days, () -> {
            withUnits();
            x.set(GATE, 0);
            x.leave(0, 600, 0);
            x.leave(0, 300, 12);
            x.leave(1, 300, 12);
            x.endDay();
            x.set(GATE, 100);
            x.endDay();
            dueDay(0, 1000, 0, 1, 200, 0);
            dueOrder(1, 0, 0, 100, 2);
            dueOrder(1, 1, 1, 100, 2);
        });
        edge("an earlier day takes all, just so", days, () -> {
            withUnits();
            x.set(GATE, 0);
            x.leave(0, 1000, 0);
            x.leave(1, 300, 12);
            x.endDay();
            x.set(GATE, 100);
            x.endDay();
            dueDay(0, 1000, 0, 1, 300, 0);
            due("count(10)", x.count(10), 1);
            dueOrder(1, 0, 1, 300, 2);
        });
        edge("orders of one holder and one hour, of two days", days, () -> {
            withUnits();
            x.set(GATE, 0);
            x.leave(0, 900, 0);
            x.endDay();
            x.leave(0, 900, 0);
            x.set(GATE, 100);
            x.endDay();
            due("count(10)", x.count(10), 1);
            dueOrder(1, 0, 0, 800, 2);
        });
        edge("nothing is left for later days", "nothing is left for later days.", () -> {
            withUnits();
            x.set(GATE, 0);
            x.leave(0, 1001, 0);
            x.leave(1, 1, 12);
            x.endDay();
            x.set(GATE, 100);
            x.endDay();
            dueOrder(1, 0, 0, 1, 1);
            dueOrder(1, 1, 1, 1, 2);
        });
        edge("three days, all leave whole", days, () -> {
            withUnits();
            x.set(GATE, 0);
            x.leave(0, 400, 0);
            x.endDay();
            x.leave(1, 300, 0);
            x.endDay();
            x.leave(0, 300, 0);
            x.set(GATE, 100);
            x.endDay();
            dueDay(0, 1000, 0, 1, 0, 0);
            due("count(10)", x.count(10), 0);
        });
    }

    /** 10000 units and 900 lots at 1000, 100000 in cash; nothing costs, nothing swings, all may leave. */
    private static void withPlainLots() {
        withUnits();
        x.set(COST, 0);
        x.trade(900);
        x.set(SWING, 0);
        x.set(GATE, 1000);
    }

    private static void soMuchCash() {
        String sold = "If there is not so much cash, lots are sold, one by one, until there is";
        edge("there is just so much cash", sold, () -> {
            withPlainLots();
            x.leave(0, 1000, 0);
            x.endDay();
            due("lastDay(1)", x.lastDay(1), 1000);
            due("lastDay(2)", x.lastDay(2), 0);
            due("count(0)", x.count(0), 0);
            due("count(1)", x.count(1), 900);
        });
        edge("there is a cent too little", sold, () -> {
            withMostUnits();
            x.set(SWING, 0);
            x.set(GATE, 1000);
            x.leave(2, 999990000, 0);
            x.leave(0, 100, 0);
            x.endDay();
            // 9999900 and 1 are paid, where 9999900 are in cash
            due("lastDay(2)", x.lastDay(2), 1);
            due("count(0)", x.count(0), 0);
            due("count(1)", x.count(1), 99);
        });
        edge("lots bring just what is too little", sold, () -> {
            withPlainLots();
            x.leave(0, 1020, 0);
            x.endDay();
            due("lastDay(2)", x.lastDay(2), 2);
            due("count(0)", x.count(0), 0);
            due("count(1)", x.count(1), 898);
        });
        edge("lots bring less than a lot too much", sold, () -> {
            withPlainLots();
            x.leave(0, 1011, 0);
            x.endDay();
            due("lastDay(2)", x.lastDay(2), 2);
            due("count(0)", x.count(0), 900);
        });
        edge("all lots bring just what is too little", sold, () -> {
            withPlainLots();
            x.leave(0, 6000, 0);
            x.leave(1, 4000, 0);
            x.endDay();
            due("lastDay(1)", x.lastDay(1), 10000);
            due("lastDay(2)", x.lastDay(2), 900);
            due("count(0)", x.count(0), 0);
            due("count(1)", x.count(1), 0);
        });
        edge("lots are sold again for the next order", sold, () -> {
            withPlainLots();
            x.leave(0, 1005, 0);
            x.leave(1, 10, 0);
            x.endDay();
            // 500 are too little, then 500 are left, then 500 are too little
            due("lastDay(2)", x.lastDay(2), 2);
            due("count(0)", x.count(0), 500);
        });
        edge("the cash of the income pool is cash", sold, () -> {
            withPlainLots();
            x.income(10000);
            x.leave(0, 1000, 0);
            x.endDay();
            due("lastDay(2)", x.lastDay(2), 0);
            due("count(0)", x.count(0), 110000 - 101000);
        });
        edge("nothing is paid, without cash", sold, () -> {
            withPennies();
            x.leave(0, 99, 0);
            x.endDay();
            // 0.99
            dueDay(0, 99, 0, 2, 0, 0);
            x.leave(0, 100, 0);
            x.endDay();
            due("lastDay(1)", x.lastDay(1), 100);
            due("lastDay(2)", x.lastDay(2), 1);
        });
    }

    /** Orders of 6000, 3990 and 10 units; 995500 for all at 99550 each, where 95500 in cash and 895500 for lots are there. */
    private static void withTooLittle() {
        withUnits();
        x.set(GATE, 1000);
        x.set(SWING, 0);
        x.trade(900);
        x.leave(0, 6000, 0);
        x.leave(1, 3990, 0);
        x.leave(1, 10, 0);
        due("price(1)", x.price(1), 99550);
    }

    private static void tooLittleCash() {
        String neither = "if there still is not when all lots are sold, neither this order nor any behind it is paid";
        edge("an order ahead of the one that can't be paid is paid", neither, () -> {
            withTooLittle();
            x.endDay();
            due("lastDay(1)", x.lastDay(1), 6000);
            due("ofHolder(0, 5)", x.ofHolder(0, 5), 597300);
        });
        edge("the order that can't be paid is not paid in part", neither, () -> {
            withTooLittle();
            x.endDay();
            dueOrder(1, 0, 1, 3990, 1);
            due("ofHolder(1, 5)", x.ofHolder(1, 5), 0);
            due("ofHolder(1, 0)", x.ofHolder(1, 0), 4000);
        });
        edge("a small order behind one that can't be paid is not paid", neither, () -> {
            withTooLittle();
            x.endDay();
            dueOrder(1, 1, 1, 10, 1);
            due("count(0)", x.count(0), 95500 + 895500 - 597300);
        });
        edge("lots stay sold", "the lots stay sold", () -> {
            withTooLittle();
            x.endDay();
            due("lastDay(2)", x.lastDay(2), 900);
            due("count(1)", x.count(1), 0);
        });
        edge("who can't be paid goes on waiting", "they go on waiting", () -> {
            withTooLittle();
            x.endDay();
            due("lastDay(4)", x.lastDay(4), 4000);
            due("count(10)", x.count(10), 2);
            due("ofHolder(1, 3)", x.ofHolder(1, 3), 4000);
            x.endDay();
            // 393700 for 4000 units
            due("lastDay(1)", x.lastDay(1), 4000);
            due("count(10)", x.count(10), 0);
        });
        edge("without lots there is nothing to sell", neither, () -> {
            withUnits();
            x.set(GATE, 1000);
            x.set(SWING, 100);
            x.leave(0, 6000, 0);
            x.leave(1, 4000, 0);
            x.buy(2, 1000000, 0);
            x.buy(2, 1000000, 0);
            x.endDay();
            // 110000 is the price: 660000 are paid, 440000 are more than the 340000 that are left
            dueDay(18180, 6000, 0, 3, 4000, 0);
            dueOrder(1, 0, 1, 4000, 1);
            due("count(0)", x.count(0), 2340000);
        });
        edge("lots that bring nothing are all sold", neither, () -> {
            withLots(10, 1000);
            x.quote(1);
            x.leave(0, 100, 0);
            x.set(SWING, 0);
            x.endDay();
            due("price(2)", x.price(2), 10000);
            due("lastDay(1)", x.lastDay(1), 0);
            due("lastDay(2)", x.lastDay(2), 1000);
            due("count(0)", x.count(0), 0);
            due("count(3)", x.count(3), 0);
        });
        edge("orders to buy come in, though nobody can be paid", "The orders to buy that come in are done, in their order", () -> {
            withLots(10, 1000);
            x.quote(1);
            x.leave(0, 100, 0);
            x.set(SWING, 0);
            x.buy(1, 90, 0);
            x.endDay();
            due("lastDay(0)", x.lastDay(0), 9);
            due("lastDay(1)", x.lastDay(1), 0);
            due("lastDay(4)", x.lastDay(4), 100);
            due("count(0)", x.count(0), 90);
        });
        edge("a cent too little behind all lots", neither, () -> {
            withMostUnits();
            x.set(SWING, 0);
            x.set(GATE, 1000);
            x.set(COST, 1);
            x.leave(2, 999990000, 0);
            x.leave(0, 100, 0);
            x.endDay();
            due("lastDay(1)", x.lastDay(1), 999990000);
            due("lastDay(2)", x.lastDay(2), 100);
            due("lastDay(4)", x.lastDay(4), 100);
            due("count(0)", x.count(0), 0);
            due("count(1)", x.count(1), 0);
        });
    }

    private static void ordersThatArePaid() {
        String done = "an order without units left is done.";
        edge("an order without units left is done", done, () -> {
            withUnits();
            x.leave(0, 1000, 0);
            x.endDay();
            due("count(10)", x.count(10), 0);
            due("order(1, 0, 0)", x.order(1, 0, 0), NO_SUCH);
        });
        edge("an order with a unit left is not done", done, () -> {
            withUnits();
            x.leave(0, 1001, 0);
            x.endDay();
            due("count(10)", x.count(10), 1);
            dueOrder(1, 0, 0, 1, 1);
        });
        edge("an order without a share goes on waiting", "The orders to leave with a share are paid, in their order", () -> {
            withUnits();
            x.set(GATE, 1);
            x.leave(0, 10, 0);
            x.leave(1, 10, 12);
            x.endDay();
            x.leave(0, 10, 0);
            x.endDay();
            dueDay(0, 9, 0, 2, 11, 0);
            dueOrder(1, 0, 1, 5, 2);
            dueOrder(1, 1, 0, 6, 2);
        });
        edge("at a price of 0 units go for nothing", "The orders to leave with a share are paid, in their order", () -> {
            withUnits();
            x.set(COST, 0);
            x.quote(10000);
            x.trade(100);
            x.set(COST, 50);
            x.quote(1);
            x.trade(-100);
            x.leave(0, 1000, 0);
            x.endDay();
            due("price(2)", x.price(2), 0);
            dueDay(0, 1000, 0, 2, 0, 0);
            due("ofHolder(0, 5)", x.ofHolder(0, 5), 0);
            due("ofHolder(0, 0)", x.ofHolder(0, 0), 5000);
        });
        edge("who leaves goes ahead of who comes", "The orders to buy that come in are done, in their order", () -> {
            withPlainLots();
            x.leave(0, 1001, 0);
            x.buy(2, 100000, 0);
            x.endDay();
            due("lastDay(2)", x.lastDay(2), 1);
            due("count(0)", x.count(0), 100900);
        });
    }

    private static void unitsThatAreMade() {
        String back = "if they are 0, or the price is 0, or there would be more than 1000000000 units in issue, the amount is given back, and the order is done";
        edge("an amount for just one unit", back, () -> {
            withUnits();
            x.buy(2, 100, 0);
            x.endDay();
            dueDay(1, 0, 0, 2, 0, 0);
            due("ofHolder(2, 4)", x.ofHolder(2, 4), 100);
        });
        edge("an amount that is a cent too little for a unit", back, () -> {
            withUnits();
            x.buy(2, 99, 0);
            x.endDay();
            dueDay(0, 0, 0, 2, 0, 99);
            due("ofHolder(2, 4)", x.ofHolder(2, 4), 0);
            due("count(0)", x.count(0), 1000000);
            due("count(9)", x.count(9), 0);
        });
        edge("an amount is given back, those behind it are done", back, () -> {
            withUnits();
            x.buy(2, 99, 0);
            x.buy(3, 100, 0);
            x.buy(4, 98, 0);
            x.buy(5, 200, 12);
            x.endDay();
            dueDay(1, 0, 0, 2, 0, 197);
            due("ofHolder(3, 0)", x.ofHolder(3, 0), 1);
            due("count(9)", x.count(9), 1);
            dueOrder(0, 0, 5, 200, 2);
        });
        edge("an amount that is given back comes in for the net flow", "The amount that comes in is the sum of the orders to buy", () -> {
            withUnits();
            x.set(THRESHOLD, 0);
            x.buy(2, 1, 0);
            x.endDay();
            dueDay(0, 0, 0, 3, 0, 1);
        });
        edge("a price of 0", back, () -> {
            withUnits();
            x.set(COST, 0);
            x.quote(10000);
            x.trade(100);
            x.set(COST, 50);
            x.quote(1);
            x.trade(-100);
            x.buy(3, 1000000, 0);
            x.buy(4, 1, 0);
            x.endDay();
            due("price(2)", x.price(2), 0);
            due("lastDay(0)", x.lastDay(0), 0);
            due("lastDay(5)", x.lastDay(5), 1000001);
            due("count(0)", x.count(0), 0);
            due("count(9)", x.count(9), 0);
        });
        edge("a price of 1", back, () -> {
            withPennies();
            x.set(COST, 50);
            due("trade(-90), for nothing", x.trade(-90), 10);
            x.buy(3, 5, 0);
            x.endDay();
            due("price(2), of 1.01", x.price(2), 1);
            due("ofHolder(3, 0)", x.ofHolder(3, 0), 5000);
        });
        edge("a price of 1 swings down to 0", back, () -> {
            withPennies();
            x.set(COST, 50);
            x.trade(-90);
            x.set(GATE, 200);
            x.leave(0, 2000, 0);
            x.buy(3, 1, 0);
            x.endDay();
            due("price(2), of 0.99", x.price(2), 0);
            dueDay(0, 2000, 0, 1, 0, 1);
        });
    }

    private static void mostUnits() {
        String most = "there would be more than 1000000000 units in issue";
        edge("as many units as there may be", most, () -> {
            withMostUnits();
            due("lastDay(0)", x.lastDay(0), 999990000);
            due("lastDay(5)", x.lastDay(5), 0);
            due("ofHolder(2, 0)", x.ofHolder(2, 0), 999990000);
        });
        edge("more units than there may be", most, () -> {
            withMostUnits();
            x.buy(3, 1, 0);
            x.endDay();
            dueDay(0, 0, 0, 2, 0, 1);
            due("count(4)", x.count(4), 1000000000);
            due("count(0)", x.count(0), 9999900);
        });
        edge("one unit more than there may be", most, () -> {
            withLots(10000, 1);
            x.quote(1);
            x.set(SWING, 100);
            for (int i = 0; i < 8; i++) {
                x.buy(1, 1000000, 0);
            }
            x.buy(1, 999999, 0);
            x.buy(1, 999999, 0);
            x.buy(1, 11, 0);
            // 909091720 at 11, and 100; the next would make it 1000000001, the one behind it makes it 999999910
            x.buy(2, 999990, 0);
            x.buy(3, 999989, 0);
            x.endDay();
            due("price(2)", x.price(2), 11);
            due("ofHolder(2, 0)", x.ofHolder(2, 0), 0);
            due("ofHolder(3, 0)", x.ofHolder(3, 0), 90908090);
            due("lastDay(5)", x.lastDay(5), 999990);
        });
        edge("units that left on the same day make room", most, () -> {
            withMostUnits();
            x.leave(2, 100000, 0);
            x.buy(3, 1000, 0);
            x.endDay();
            dueDay(100000, 100000, 0, 2, 0, 0);
            due("count(4)", x.count(4), 1000000000);
        });
        edge("too few units left on the same day", most, () -> {
            withMostUnits();
            x.leave(2, 99999, 0);
            x.buy(3, 1000, 0);
            x.endDay();
            dueDay(0, 99999, 0, 2, 0, 1000);
            due("count(4)", x.count(4), 999900001);
        });
        edge("an order too great for the units, a smaller one behind it", most, () -> {
            withMostUnits();
            x.leave(2, 100000, 0);
            x.buy(3, 1001, 0);
            x.buy(4, 999, 0);
            x.endDay();
            dueDay(99900, 100000, 0, 2, 0, 1001);
            due("ofHolder(4, 0)", x.ofHolder(4, 0), 99900);
        });
    }

    private static void theNextDay() {
        String next = "Then the day becomes one more.";
        edge("a day on which nothing is ends, too", next, () -> {
            due("endDay()", x.endDay(), 1);
            due("count(8)", x.count(8), 1);
            dueDay(0, 0, 0, 2, 0, 0);
        });
        edge("a day on which nobody can be paid ends, too", next, () -> {
            withTooLittle();
            due("endDay()", x.endDay(), 2);
        });
    }
}
