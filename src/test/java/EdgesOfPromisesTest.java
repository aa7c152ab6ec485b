import java.util.function.IntUnaryOperator;

/** The edges that promises 1 to 17 name; those behind them stand in EdgesOfTextsTest and EdgesOfStatesTest. */
public final class EdgesOfPromisesTest extends Edges {
    public static void main(String[] args) {
        Check.watch();
        run();
        CHECK.end("EdgesOfPromisesTest");
    }

    static void run() {
        newObject();
        set();
        buy();
        leave();
        inKind();
        endDay();
        quote();
        trade();
        tradeForCash();
        income();
        pay();
        ofHolder();
        count();
        order();
        lastDay();
        price();
        exitIn();
        exitInChangesNothing();
        fairSwing();
    }

    /** Calls with a number that stands for no holder. */
    private static void dueNoSuch(String call, IntUnaryOperator of) {
        for (int holder : new int[] {-1, 6, LEAST, MOST, 256}) {
            due(call + " of holder " + holder, of.applyAsInt(holder), NO_SUCH);
        }
    }

    private static void newObject() {
        section("## Promise 1: A new object");
        String without = "Creates a trust without units, cash and lots.";
        edge("a new trust is without units", without, () -> {
            due("count(4)", x.count(4), 0);
            due("count(5)", x.count(5), 0);
            for (int holder = 0; holder < 6; holder++) {
                due("ofHolder(" + holder + ", 0)", x.ofHolder(holder, 0), 0);
            }
        });
        edge("a new trust is without cash", without, () -> {
            due("count(0)", x.count(0), 0);
            due("count(3)", x.count(3), 0);
        });
        edge("a new trust is without lots", without, () -> due("count(1)", x.count(1), 0));
        edge("two objects share nothing", without, () -> {
            withEverything();
            SwingUnits other = new SwingUnits();
            due("count(0)", other.count(0), 0);
            due("restore(1)", other.restore(1), NOT_POSSIBLE);
            due("undo()", other.undo(), NOT_POSSIBLE);
            due("count(2)", other.count(2), 1000);
            due("count(16)", other.count(16), 5);
        });
    }

    private static void set() {
        section("## Promise 2: set");
        edge("the previous value of a setting", "Returns the previous value", () -> {
            due("set(SWING, 100)", x.set(SWING, 100), 10);
            due("set(SWING, 0)", x.set(SWING, 0), 100);
            due("set(SWING, 0)", x.set(SWING, 0), 0);
            due("count(14)", x.count(14), 0);
        });
        String none = "BAD_VALUE if there is no such setting";
        edge("there is no such setting", none, () -> {
            dueBad("set", setting -> x.set(setting, 0), -1, 5, LEAST, MOST);
            due("count(18)", x.count(18), 0);
        });
        edge("the first and the last setting", none, () -> {
            due("set(0, 1)", x.set(0, 1), 12);
            due("set(4, 1)", x.set(4, 1), 5);
            due("count(12)", x.count(12), 1);
            due("count(16)", x.count(16), 1);
        });
        edge("a setting's value is out of its range", "or the value is out of its range.", () -> {
            int[] greatest = {23, 1000, 100, 1000, 50};
            for (int i = 0; i < 5; i++) {
                int setting = i;
                dueBad("set " + i, value -> x.set(setting, value), -1, greatest[i] + 1, LEAST, MOST);
            }
            due("count(18)", x.count(18), 0);
        });
    }

    private static void buy() {
        section("## Promise 3: buy");
        edge("buy for no such holder", "NO_SUCH if there is no such holder", () -> {
            dueNoSuch("buy", holder -> x.buy(holder, 1, 0));
            due("buy(5, 1, 0)", x.buy(5, 1, 0), 0);
        });
        String amount = "- `amount`: 1 to 1000000";
        edge("buy for too small an amount", amount, () -> dueBad("buy", value -> x.buy(0, value, 0), 0, -1, LEAST));
        edge("buy for too large an amount", amount, () -> dueBad("buy", value -> x.buy(0, value, 0), 1000001, MOST));
        edge("buy for the least and the greatest amount", amount, () -> {
            due("buy(0, 1, 0)", x.buy(0, 1, 0), 0);
            due("buy(0, 1000000, 0)", x.buy(0, 1000000, 0), 0);
            dueOrder(0, 0, 0, 1, 0);
            dueOrder(0, 1, 0, 1000000, 0);
        });
        String hour = "- `hour`: 0 to 23";
        edge("buy at too small an hour", hour, () -> dueBad("buy", value -> x.buy(0, 1, value), -1, LEAST));
        edge("buy at too large an hour", hour, () -> dueBad("buy", value -> x.buy(0, 1, value), 24, MOST));
        edge("buy at the first and the last hour", hour, () -> {
            due("buy(0, 1, 0)", x.buy(0, 1, 0), 0);
            due("buy(0, 1, 23)", x.buy(0, 1, 23), 1);
        });
        edge("buy with 19 and with 20 orders", "TOO_MANY if there are 20 orders to buy.", () -> {
            for (int i = 0; i < 19; i++) {
                x.buy(i % 6, 1, i % 2 * 12);
            }
            due("buy with 19", x.buy(0, 1, 23), 1);
            due("buy with 20", x.buy(0, 1, 0), TOO_MANY);
            due("buy with 20", x.buy(0, 1, 23), TOO_MANY);
            due("count(9)", x.count(9), 20);
        });
    }

    private static void leave() {
        section("## Promise 4: leave");
        edge("leave of no such holder", "NO_SUCH if there is no such holder", () -> {
            withUnits();
            dueNoSuch("leave", holder -> x.leave(holder, 1, 0));
        });
        edge("leave with too few units", "BAD_VALUE if units is below 1", () -> {
            withUnits();
            dueBad("leave", units -> x.leave(0, units, 0), 0, -1, LEAST);
            due("leave(0, 1, 0)", x.leave(0, 1, 0), 1);
        });
        edge("leave at too small an hour", "or hour is out of range", () -> {
            withUnits();
            dueBad("leave", hour -> x.leave(0, 1, hour), -1, LEAST);
            due("leave(0, 1, 0)", x.leave(0, 1, 0), 1);
        });
        edge("leave at too large an hour", "or hour is out of range", () -> {
            withUnits();
            dueBad("leave", hour -> x.leave(0, 1, hour), 24, MOST);
            due("leave(0, 1, 23)", x.leave(0, 1, 23), 2);
        });
        edge("leave with 19 and with 20 orders", "TOO_MANY if there are 20 orders to leave", () -> {
            withUnits();
            for (int i = 0; i < 19; i++) {
                x.leave(i % 2, 1, i % 2 * 12);
            }
            due("leave with 19", x.leave(0, 1, 23), 2);
            due("leave with 20", x.leave(0, 1, 0), TOO_MANY);
            due("count(10)", x.count(10), 20);
        });
        String notSoMany = "NOT_POSSIBLE if the holder has not so many units that are not bound.";
        edge("leave with all units", notSoMany, () -> {
            withUnits();
            due("leave(0, 6000, 0)", x.leave(0, 6000, 0), 1);
            due("leave(0, 1, 0)", x.leave(0, 1, 0), NOT_POSSIBLE);
        });
        edge("leave with one unit too many", notSoMany, () -> {
            withUnits();
            due("leave(0, 6001, 0)", x.leave(0, 6001, 0), NOT_POSSIBLE);
            due("leave(0, MOST, 0)", x.leave(0, MOST, 0), NOT_POSSIBLE);
        });
        edge("leave with what is not bound", notSoMany, () -> {
            withUnits();
            x.leave(0, 1000, 0);
            x.leave(0, 2000, 12);
            due("leave(0, 3001, 0)", x.leave(0, 3001, 0), NOT_POSSIBLE);
            due("leave(0, 3000, 0)", x.leave(0, 3000, 0), 1);
        });
        edge("leave without units", notSoMany, () -> {
            due("leave(0, 1, 0)", x.leave(0, 1, 0), NOT_POSSIBLE);
            x.buy(0, 1000000, 0);
            due("leave(0, 1, 0), of units that are not made yet", x.leave(0, 1, 0), NOT_POSSIBLE);
        });
        edge("leave with old and new units", notSoMany, () -> {
            withOldUnits();
            x.buy(0, 1000, 0);
            x.endDay();
            due("leave(0, 6011, 0)", x.leave(0, 6011, 0), NOT_POSSIBLE);
            due("leave(0, 6010, 0)", x.leave(0, 6010, 0), 2);
        });
    }

    private static void inKind() {
        section("## Promise 5: inKind");
        edge("inKind of no such holder", "NO_SUCH if there is no such holder", () -> {
            withUnits();
            dueNoSuch("inKind", holder -> x.inKind(holder, 1));
        });
        edge("inKind with too few units", "BAD_VALUE if units is below 1", () -> {
            withUnits();
            dueBad("inKind", units -> x.inKind(0, units), 0, -1, LEAST);
            due("inKind(0, 1)", x.inKind(0, 1), 0);
            due("ofHolder(0, 0)", x.ofHolder(0, 0), 5999);
        });
        String notSoMany = "NOT_POSSIBLE if the holder has not so many units that are not bound.";
        edge("inKind with one unit too many", notSoMany, () -> {
            withUnits();
            due("inKind(0, 6001)", x.inKind(0, 6001), NOT_POSSIBLE);
            due("inKind(0, MOST)", x.inKind(0, MOST), NOT_POSSIBLE);
            due("inKind(2, 1)", x.inKind(2, 1), NOT_POSSIBLE);
        });
        edge("inKind with what is not bound", notSoMany, () -> {
            withUnits();
            x.leave(0, 5990, 12);
            due("inKind(0, 11)", x.inKind(0, 11), NOT_POSSIBLE);
            due("inKind(0, 10)", x.inKind(0, 10), 0);
            due("ofHolder(0, 3)", x.ofHolder(0, 3), 5990);
        });
        edge("inKind without units in issue", notSoMany, () -> due("inKind(0, 1)", x.inKind(0, 1), NOT_POSSIBLE));
        String gets = "gets units * the lots / the units in issue lots, and units * the cash / the units in issue in cash (both as they are ahead of it)";
        edge("all leave in kind", gets, () -> {
            withUnits();
            x.set(COST, 0);
            x.trade(300);
            due("inKind(0, 6000)", x.inKind(0, 6000), 180);
            due("inKind(1, 4000)", x.inKind(1, 4000), 120);
            due("ofHolder(0, 5)", x.ofHolder(0, 5), 420000);
            due("ofHolder(1, 5)", x.ofHolder(1, 5), 280000);
            due("count(3)", x.count(3), 0);
            due("count(4)", x.count(4), 0);
            due("price(0)", x.price(0), 100000);
        });
        edge("inKind of the only unit", gets, () -> {
            x.buy(0, 100, 0);
            x.endDay();
            x.set(COST, 0);
            x.quote(30);
            x.trade(3);
            due("inKind(0, 1)", x.inKind(0, 1), 3);
            due("ofHolder(0, 5)", x.ofHolder(0, 5), 10);
            due("count(4)", x.count(4), 0);
        });
        edge("inKind with fewer units than a lot has", gets, () -> {
            withUnits();
            x.set(COST, 0);
            x.trade(100);
            due("inKind(0, 99), of 0.99", x.inKind(0, 99), 0);
            due("inKind(0, 100), of 1.01", x.inKind(0, 100), 1);
            due("ofHolder(0, 8)", x.ofHolder(0, 8), 1);
            due("count(1)", x.count(1), 99);
        });
        edge("inKind of cash beyond the ints", gets, () -> {
            withMostUnits();
            due("inKind(2, 500000000)", x.inKind(2, 500000000), 50);
            due("ofHolder(2, 5)", x.ofHolder(2, 5), 4999950);
        });
        edge("inKind is at once", "A holder leaves in kind, at once", () -> {
            withUnits();
            x.set(GATE, 0);
            x.inKind(0, 6000);
            due("ofHolder(0, 0)", x.ofHolder(0, 0), 0);
            due("count(8)", x.count(8), 1);
            due("lastDay(1)", x.lastDay(1), 0);
        });
        edge("inKind takes the income of now", "the units go (the income of a unit is that of now)", () -> {
            withUnits();
            x.leave(0, 500, 0);
            x.endDay();
            x.income(9500);
            x.inKind(0, 1000);
            due("count(6)", x.count(6), 8500);
            due("price(3)", x.price(3), 1000);
        });
    }

    private static void endDay() {
        section("## Promise 6: endDay");
        edge("the first day ends", "Returns the day then.", () -> {
            due("endDay()", x.endDay(), 1);
            due("endDay()", x.endDay(), 2);
        });
    }

    private static void quote() {
        section("## Promise 7: quote");
        String bad = "BAD_VALUE if quote is out of range.";
        edge("a quote that is too small", bad, () -> dueBad("quote", x::quote, 0, -1, LEAST));
        edge("a quote that is too large", bad, () -> dueBad("quote", x::quote, 10001, MOST));
        edge("the least and the greatest quote", "- `quote`: 1 to 10000", () -> {
            due("quote(1)", x.quote(1), 1000);
            due("quote(10000)", x.quote(10000), 1);
            due("count(2)", x.count(2), 10000);
        });
        edge("the same quote again", "Returns the previous one", () -> {
            due("quote(1000)", x.quote(1000), 1000);
            due("count(18)", x.count(18), 1);
        });
    }

    private static void trade() {
        section("## Promise 8: trade");
        String bad = "BAD_VALUE if lots is 0 or out of range";
        edge("trade of 0 lots", bad, () -> {
            withUnits();
            due("trade(0)", x.trade(0), BAD_VALUE);
        });
        edge("trade of too many lots to be bought", bad, () -> {
            withUnits();
            dueBad("trade", x::trade, 1001, MOST);
        });
        edge("trade of too many lots to be sold", bad, () -> {
            withUnits();
            dueBad("trade", x::trade, -1001, LEAST);
        });
        edge("trade of 1000 lots, there and back", "- `lots`: -1000 to 1000, not 0", () -> {
            withUnits();
            x.set(COST, 0);
            due("trade(1000)", x.trade(1000), 1000);
            due("count(0)", x.count(0), 0);
            due("trade(-1000)", x.trade(-1000), 0);
            due("count(0)", x.count(0), 1000000);
        });
        edge("trade of one lot, there and back", "- `lots`: -1000 to 1000, not 0", () -> {
            withUnits();
            due("trade(1)", x.trade(1), 1);
            due("trade(-1)", x.trade(-1), 0);
            due("count(0)", x.count(0), 1000000 - 10);
        });
        String more = "TOO_MANY if there would be more than 1000";
        edge("trade up to just 1000 lots", more, () -> {
            withUnits();
            x.quote(10);
            x.trade(400);
            due("trade(600)", x.trade(600), 1000);
        });
        edge("trade up to one lot more than 1000", more, () -> {
            withUnits();
            x.quote(10);
            x.trade(400);
            due("trade(601)", x.trade(601), TOO_MANY);
            due("trade(1000)", x.trade(1000), TOO_MANY);
            due("count(1)", x.count(1), 400);
        });
        String fewer = "NOT_POSSIBLE if there are not so many";
        edge("trade of all lots", fewer, () -> {
            withUnits();
            x.trade(400);
            due("trade(-400)", x.trade(-400), 0);
        });
        edge("trade of one lot more than all", fewer, () -> {
            withUnits();
            x.trade(400);
            due("trade(-401)", x.trade(-401), NOT_POSSIBLE);
            due("trade(-1000)", x.trade(-1000), NOT_POSSIBLE);
            due("count(1)", x.count(1), 400);
        });
        edge("trade of a lot that isn't there", fewer, () -> due("trade(-1)", x.trade(-1), NOT_POSSIBLE));
    }

    private static void tradeForCash() {
        String little = "or the cash that is not in the income pool is too little for them.";
        edge("trade for just the cash", little, () -> {
            withUnits();
            x.set(COST, 0);
            x.trade(999);
            due("count(0)", x.count(0), 1000);
            due("trade(1)", x.trade(1), 1000);
            due("count(0)", x.count(0), 0);
        });
        edge("trade for a cent more than the cash", little, () -> {
            withUnits();
            x.set(COST, 0);
            x.trade(999);
            x.quote(1001);
            due("trade(1)", x.trade(1), NOT_POSSIBLE);
        });
        edge("trade for just the cash, with the cost", little, () -> {
            withUnits();
            x.trade(994);
            due("count(0)", x.count(0), 1030);
            x.quote(1024);
            due("trade(1), for 1030", x.trade(1), 995);
            due("count(0)", x.count(0), 0);
        });
        edge("trade for a cent more than the cash, with the cost", little, () -> {
            withUnits();
            x.trade(994);
            x.quote(1025);
            due("trade(1), for 1031", x.trade(1), NOT_POSSIBLE);
            due("count(0)", x.count(0), 1030);
        });
        edge("trade for just the cash that is no income", little, () -> {
            withUnits();
            x.set(COST, 0);
            x.trade(999);
            x.income(1000000);
            due("trade(1)", x.trade(1), 1000);
            due("count(0)", x.count(0), 1000000);
            due("count(6)", x.count(6), 1000000);
        });
        edge("trade for a cent of income", little, () -> {
            withUnits();
            x.set(COST, 0);
            x.trade(999);
            x.income(1000000);
            x.quote(1001);
            due("trade(1)", x.trade(1), NOT_POSSIBLE);
        });
        edge("trade without cash", little, () -> {
            x.set(COST, 0);
            x.quote(1);
            due("trade(1)", x.trade(1), NOT_POSSIBLE);
        });
        edge("trade of lots to be sold, all cash is income", "Buys lots, or sells them.", () -> {
            withUnits();
            x.set(COST, 0);
            x.trade(1000);
            x.income(10);
            due("trade(-1)", x.trade(-1), 999);
            due("count(0)", x.count(0), 1010);
            due("count(6)", x.count(6), 10);
        });
    }

    private static void income() {
        section("## Promise 9: income");
        String bad = "BAD_VALUE if amount is out of range";
        edge("too small an income", bad, () -> {
            withUnits();
            dueBad("income", x::income, 0, -1, LEAST);
        });
        edge("too large an income", bad, () -> {
            withUnits();
            dueBad("income", x::income, 1000001, MOST);
        });
        edge("the least and the greatest income", "- `amount`: 1 to 1000000", () -> {
            withUnits();
            due("income(1)", x.income(1), 1);
            due("income(1000000)", x.income(1000000), 1000001);
            due("count(0)", x.count(0), 2000001);
        });
        String none = "NOT_POSSIBLE if there are no units in issue.";
        edge("income of a new trust", none, () -> due("income(1)", x.income(1), NOT_POSSIBLE));
        edge("income when all have left", none, () -> {
            withUnits();
            x.inKind(0, 6000);
            due("income(1)", x.income(1), 1);
            x.inKind(1, 4000);
            due("income(1)", x.income(1), NOT_POSSIBLE);
        });
        edge("income when all have left, and cash is left", none, () -> {
            withUnits();
            x.set(GATE, 1000);
            x.leave(0, 6000, 0);
            x.leave(1, 4000, 0);
            x.endDay();
            due("count(0)", x.count(0), 10000);
            due("income(1)", x.income(1), NOT_POSSIBLE);
            due("count(0)", x.count(0), 10000);
        });
        edge("income with units without value", none, () -> {
            withPennies();
            x.set(COST, 50);
            x.trade(-100);
            due("count(3)", x.count(3), 0);
            due("income(10)", x.income(10), 10);
            due("price(3)", x.price(3), 1);
        });
        edge("income with one unit", none, () -> {
            x.buy(0, 100, 0);
            x.endDay();
            due("income(7)", x.income(7), 7);
            due("price(3)", x.price(3), 7000);
        });
    }

    private static void pay() {
        section("## Promise 10: pay");
        String all = "Returns how much is paid in all.";
        edge("pay without units", all, () -> due("pay()", x.pay(), 0));
        edge("pay without a pool", all, () -> {
            withUnits();
            due("pay()", x.pay(), 0);
            due("count(0)", x.count(0), 1000000);
        });
        edge("pay beyond the ints on the way", all, () -> {
            withOldUnits();
            for (int i = 0; i < 5; i++) {
                x.income(1000000);
            }
            due("pay(), 500000 times 10000", x.pay(), 5000000);
            due("ofHolder(0, 6)", x.ofHolder(0, 6), 3000000);
            due("ofHolder(0, 7)", x.ofHolder(0, 7), 0);
        });
        edge("evening beyond the ints on the way", all, () -> {
            withMuchEvening();
            x.pay();
            due("ofHolder(2, 6)", x.ofHolder(2, 6), 2500000);
            due("ofHolder(2, 7)", x.ofHolder(2, 7), 2500000);
        });
        edge("pay of too little for a unit", all, () -> {
            withUnits();
            x.income(9);
            due("pay()", x.pay(), 0);
            due("count(6)", x.count(6), 9);
        });
        edge("pay of all of the pool", all, () -> {
            withUnits();
            x.income(1000000);
            due("pay()", x.pay(), 1000000);
            due("count(6)", x.count(6), 0);
            due("count(0)", x.count(0), 1000000);
            due("pay()", x.pay(), 0);
        });
        edge("pay when all have left, with a pool", all, () -> {
            withUnits();
            x.income(19999);
            x.set(GATE, 1000);
            x.set(SWING, 0);
            x.leave(0, 6000, 0);
            x.leave(1, 4000, 0);
            x.endDay();
            due("count(6)", x.count(6), 9);
            due("pay()", x.pay(), 0);
            due("count(6)", x.count(6), 9);
        });
    }

    private static void ofHolder() {
        section("## Promise 11: ofHolder");
        edge("ofHolder of no such holder", "NO_SUCH if there is no such holder", () ->
            dueNoSuch("ofHolder", holder -> x.ofHolder(holder, 0)));
        edge("ofHolder of nothing that there is", "BAD_VALUE if what is out of range.", () ->
            dueBad("ofHolder", what -> x.ofHolder(0, what), -1, 9, LEAST, MOST));
        edge("the first and the last of ofHolder", "8 lots that were got in kind so far", () -> {
            withUnits();
            x.trade(900);
            x.inKind(0, 1000);
            due("ofHolder(0, 0)", x.ofHolder(0, 0), 5000);
            due("ofHolder(0, 8)", x.ofHolder(0, 8), 90);
        });
        edge("lots of several exits in kind", "8 lots that were got in kind so far", () -> {
            withUnits();
            x.set(COST, 0);
            x.trade(500);
            due("inKind(0, 1000)", x.inKind(0, 1000), 50);
            due("inKind(0, 100)", x.inKind(0, 100), 5);
            due("inKind(0, 1)", x.inKind(0, 1), 0);
            due("ofHolder(0, 8)", x.ofHolder(0, 8), 55);
        });
        edge("amounts that were given back bought no units", "4 amounts that bought units so far", () -> {
            withUnits();
            x.buy(0, 99, 0);
            x.buy(0, 100, 0);
            x.endDay();
            due("ofHolder(0, 4)", x.ofHolder(0, 4), 600100);
        });
        edge("the cash of exits in kind is paid for leaving, too", "5 paid for leaving so far (the cash of exits in kind, too)", () -> {
            withUnits();
            x.inKind(0, 10);
            x.leave(0, 20, 0);
            x.endDay();
            due("ofHolder(0, 5)", x.ofHolder(0, 5), 3000);
        });
        edge("income that was paid is with evening", "6 income that was paid so far (with evening), 7 evening of that", () -> {
            withOldUnits();
            x.income(20000);
            x.buy(0, 10000, 0);
            x.endDay();
            x.pay();
            x.income(10098);
            x.pay();
            due("ofHolder(0, 6)", x.ofHolder(0, 6), 12000 + 196 + 6098);
            due("ofHolder(0, 7)", x.ofHolder(0, 7), 196);
        });
    }

    private static void count() {
        section("## Promise 12: count");
        edge("count of nothing that there is", "BAD_VALUE if what is out of range.", () ->
            dueBad("count", x::count, -1, 19, LEAST, MOST));
        edge("the first and the last of count", "18 how many changes can be undone", () -> {
            withUnits();
            due("count(0)", x.count(0), 1000000);
            due("count(18)", x.count(18), 3);
        });
        edge("the first and the last setting of count", "12 to 16 the settings", () -> {
            x.set(CUT, 3);
            x.set(COST, 9);
            due("count(12)", x.count(12), 3);
            due("count(16)", x.count(16), 9);
        });
        edge("units that wait for a later day wait, too", "11 units that wait to leave", () -> {
            withUnits();
            x.leave(0, 3, 0);
            x.leave(1, 4, 12);
            due("count(11)", x.count(11), 7);
            x.set(GATE, 0);
            x.endDay();
            due("count(11)", x.count(11), 7);
        });
        edge("the most changes that can be undone", "18 how many changes can be undone", () -> {
            for (int i = 1; i < 9; i++) {
                x.quote(i);
                due("count(18)", x.count(18), Math.min(i, 6));
            }
        });
    }

    private static void order() {
        section("## Promise 13: order");
        edge("order of no such kind", "BAD_VALUE if kind or what is out of range", () -> {
            x.buy(0, 1, 0);
            dueBad("order", kind -> x.order(kind, 0, 0), -1, 2, LEAST, MOST);
        });
        edge("order of nothing that there is", "BAD_VALUE if kind or what is out of range", () -> {
            x.buy(0, 1, 0);
            dueBad("order", what -> x.order(0, 0, what), -1, 3, LEAST, MOST);
            dueBad("order", what -> x.order(0, 7, what), -1, 3);
        });
        String noSuch = "NO_SUCH if there is no such order.";
        edge("no order at all", noSuch, () -> {
            due("order(0, 0, 0)", x.order(0, 0, 0), NO_SUCH);
            due("order(1, 0, 0)", x.order(1, 0, 0), NO_SUCH);
        });
        edge("the order behind the last one", noSuch, () -> {
            withUnits();
            x.buy(3, 77, 0);
            x.buy(4, 88, 0);
            x.leave(1, 99, 0);
            dueOrder(0, 1, 4, 88, 1);
            due("order(0, 2, 0)", x.order(0, 2, 0), NO_SUCH);
            dueOrder(1, 0, 1, 99, 1);
            due("order(1, 1, 0)", x.order(1, 1, 0), NO_SUCH);
        });
        edge("an order below 0 or far behind", noSuch, () -> {
            x.buy(0, 1, 0);
            for (int order : new int[] {-1, LEAST, MOST, 20, 21}) {
                due("order(0, " + order + ", 0)", x.order(0, order, 0), NO_SUCH);
            }
        });
        edge("the order behind 20", noSuch, () -> {
            for (int i = 0; i < 20; i++) {
                x.buy(5, 1 + i, 0);
            }
            dueOrder(0, 19, 5, 20, 0);
            due("order(0, 20, 0)", x.order(0, 20, 0), NO_SUCH);
        });
        edge("an order that is done is no more", noSuch, () -> {
            x.buy(5, 100, 0);
            x.endDay();
            due("order(0, 0, 0)", x.order(0, 0, 0), NO_SUCH);
        });
    }

    private static void lastDay() {
        section("## Promise 14: lastDay");
        edge("lastDay of nothing that there is", "BAD_VALUE if what is out of range", () -> {
            dueBad("lastDay", x::lastDay, -1, 6, LEAST, MOST);
            x.endDay();
            dueBad("lastDay", x::lastDay, -1, 6, LEAST, MOST);
        });
        String none = "NONE if no day ended.";
        edge("no day ended", none, () -> dueDay(NONE, NONE, NONE, NONE, NONE, NONE));
        edge("a day with nothing ended", none, () -> {
            x.endDay();
            dueDay(0, 0, 0, 2, 0, 0);
        });
        edge("the only day that ended is undone", none, () -> {
            x.endDay();
            x.undo();
            dueDay(NONE, NONE, NONE, NONE, NONE, NONE);
        });
        edge("a state in which no day ended is restored", none, () -> {
            x.save(0);
            x.endDay();
            x.restore(0);
            dueDay(NONE, NONE, NONE, NONE, NONE, NONE);
        });
        edge("the latest day, not the one before", "Returns something about the latest day that ended.", () -> {
            withUnits();
            x.trade(995);
            x.leave(0, 1001, 0);
            x.buy(2, 1, 0);
            x.buy(2, 150, 0);
            x.endDay();
            // 98506 are paid for 1000 units, where 25 and 99 lots at 995 are there
            due("price(2)", x.price(2), 98506);
            dueDay(1, 1000, 99, 1, 1, 1);
            x.set(GATE, 1000);
            x.endDay();
            dueDay(0, 1, 0, 2, 0, 0);
            x.endDay();
            dueDay(0, 0, 0, 2, 0, 0);
        });
        // The document leaves open what a swing by nothing is; here step 2 tells it, not the price.
        edge("the price swung by a SWING of 0", "3 how the price swung (1 down, 2 not at all, 3 up)", () -> {
            withUnits();
            x.set(SWING, 0);
            x.buy(2, 50001, 0);
            x.endDay();
            due("price(2)", x.price(2), 100000);
            due("lastDay(3)", x.lastDay(3), 3);
            x.leave(0, 1000, 0);
            x.endDay();
            due("price(2)", x.price(2), 100000);
            due("lastDay(3)", x.lastDay(3), 1);
        });
        edge("units of later days didn't want to leave", "4 units that wanted to leave and still wait", () -> {
            withUnits();
            x.leave(0, 1005, 0);
            x.leave(0, 50, 12);
            x.endDay();
            due("lastDay(4)", x.lastDay(4), 5);
        });
    }

    private static void price() {
        section("## Promise 15: price");
        edge("price of nothing that there is", "Returns the price; -2 if what is out of range.", () ->
            dueBad("price", what -> (int) x.price(what), -1, 4, LEAST, MOST));
        String ended = "2 the price of the latest day that ended (-6 if none did)";
        edge("the price of no day", ended, () -> due("price(2)", x.price(2), NONE));
        edge("the price of the only day, which is undone", ended, () -> {
            x.endDay();
            due("price(2)", x.price(2), 100000);
            x.undo();
            due("price(2)", x.price(2), NONE);
        });
        edge("the price of the latest day, when the quote changes", ended, () -> {
            withUnits();
            x.set(COST, 0);
            x.trade(500);
            x.quote(2000);
            due("price(0)", x.price(0), 150000);
            due("price(2)", x.price(2), 100000);
        });
        edge("a price beyond the ints", "Returns a price.", () -> {
            x.buy(0, 100, 0);
            x.endDay();
            for (int i = 0; i < 30; i++) {
                x.income(1000000);
            }
            due("price(0)", x.price(0), 30000100000L);
            due("price(3)", x.price(3), 30000000000L);
            x.buy(0, 1000000, 0);
            x.buy(0, 1000000, 0);
            due("price(1)", x.price(1), 30300101000L);
            x.endDay();
            due("price(2)", x.price(2), 30300101000L);
        });
        edge("price(1) ends no day", "1 the price that the end of this day would have if it came now", () -> {
            withEverything();
            x.buy(1, 1000000, 0);
            String before = all();
            x.price(1);
            CHECK.holds("all is as before", all().equals(before));
            long now = x.price(1);
            x.endDay();
            due("price(2)", x.price(2), now);
        });
    }

    private static void exitIn() {
        section("## Promise 16: exitIn");
        String none = "(0 if nothing is bound)";
        edge("exitIn of no such holder", "NO_SUCH if there is no such holder", () ->
            dueNoSuch("exitIn", x::exitIn));
        edge("exitIn with nothing bound", none, () -> {
            withUnits();
            x.leave(0, 9000, 0);
            due("exitIn(1)", x.exitIn(1), 0);
            due("exitIn(5)", x.exitIn(5), 0);
        });
        edge("exitIn at the end of this day", none, () -> {
            withUnits();
            x.leave(0, 1, 0);
            due("exitIn(0)", x.exitIn(0), 1);
        });
        edge("exitIn of an order of the next day", "how many ends of days it takes", () -> {
            withUnits();
            x.leave(0, 1, 12);
            due("exitIn(0)", x.exitIn(0), 2);
        });
        edge("exitIn of several orders", "until all that a holder has in orders to leave is paid.", () -> {
            withUnits();
            x.leave(0, 1, 0);
            x.leave(1, 1001, 0);
            x.leave(0, 1, 12);
            due("exitIn(0)", x.exitIn(0), 2);
            due("exitIn(1)", x.exitIn(1), 2);
        });
        String sixty = "NONE if it is not so behind 60 of them.";
        edge("exitIn behind just 60 of them", sixty, () -> {
            withUnits();
            x.set(GATE, 1);
            x.leave(0, 541, 0);
            due("exitIn(0)", x.exitIn(0), 60);
        });
        edge("exitIn behind 61 of them", sixty, () -> {
            withUnits();
            x.set(GATE, 1);
            x.leave(0, 542, 0);
            due("exitIn(0)", x.exitIn(0), NONE);
        });
        edge("exitIn behind 59 of them, and the next day", sixty, () -> {
            withUnits();
            x.set(GATE, 1);
            x.leave(0, 532, 0);
            due("exitIn(0)", x.exitIn(0), 59);
            x.undo();
            x.leave(0, 532, 12);
            due("exitIn(0)", x.exitIn(0), 60);
            x.leave(0, 9, 12);
            due("exitIn(0)", x.exitIn(0), NONE);
        });
        edge("exitIn with a gate that is closed", sixty, () -> {
            withUnits();
            x.set(GATE, 0);
            x.leave(0, 1, 0);
            due("exitIn(0)", x.exitIn(0), NONE);
        });
        edge("exitIn when nobody can be paid", sixty, () -> {
            withLots(10, 1000);
            x.quote(1);
            x.set(SWING, 0);
            x.leave(0, 100, 0);
            // a lot brings nothing, and behind the first day there is nothing: then 100 units go for nothing
            due("exitIn(0)", x.exitIn(0), 2);
        });
    }

    private static void exitInChangesNothing() {
        edge("exitIn changes nothing", "Tells how many ends of days it takes", () -> {
            withEverything();
            x.buy(1, 1000000, 0);
            String before = all();
            due("exitIn(0), 858 of 2000 and then the rest", x.exitIn(0), 2);
            CHECK.holds("all is as before", all().equals(before));
        });
        edge("exitIn with orders to buy that are there", "if nothing else comes", () -> {
            withUnits();
            x.leave(0, 2000, 0);
            due("exitIn(0)", x.exitIn(0), 3);
            x.buy(2, 1000000, 0);
            // 1000 go, 10000 or so come, and 1900 or so may go then
            due("exitIn(0)", x.exitIn(0), 2);
        });
        edge("exitIn of a state that is restored", "if nothing else comes", () -> {
            withUnits();
            x.leave(0, 2000, 0);
            x.save(0);
            x.set(GATE, 0);
            due("exitIn(0)", x.exitIn(0), NONE);
            x.restore(0);
            due("exitIn(0)", x.exitIn(0), 3);
        });
    }

    private static void fairSwing() {
        section("## Promise 17: fairSwing");
        String least = "Finds the least SWING, 0 to 100";
        edge("fairSwing with nothing to be done", least, () -> {
            due("fairSwing()", x.fairSwing(), 0);
            withUnits();
            x.set(SWING, 100);
            due("fairSwing()", x.fairSwing(), 0);
        });
        edge("fairSwing of 100", least, () -> {
            withLots(10, 1000);
            x.quote(10);
            x.leave(0, 10, 0);
            due("fairSwing()", x.fairSwing(), 100);
        });
        edge("fairSwing would be beyond 100", "NONE if there is none.", () -> {
            withLots(100, 100);
            x.quote(9);
            x.leave(0, 10, 0);
            due("fairSwing()", x.fairSwing(), NONE);
        });
        edge("fairSwing below the threshold", "NONE if there is none.", () -> {
            withUnits();
            x.set(COST, 50);
            x.trade(945);
            x.leave(0, 100, 0);
            due("fairSwing()", x.fairSwing(), NONE);
        });
        String notBelow = "would not be below the middle price ahead of it.";
        edge("fairSwing is the least one", notBelow, () -> {
            withUnits();
            x.set(COST, 50);
            x.trade(900);
            x.leave(0, 1000, 0);
            due("price(0)", x.price(0), 95500);
            due("fairSwing()", x.fairSwing(), 22);
            x.set(SWING, 21);
            x.endDay();
            CHECK.holds("21 is not fair", x.price(0) < 95500);
            x.undo();
            x.set(SWING, 22);
            x.endDay();
            CHECK.holds("22 is fair", x.price(0) >= 95500);
        });
        edge("a middle price that is the same is not below", notBelow, () -> {
            withUnits();
            x.leave(0, 1000, 0);
            due("fairSwing()", x.fairSwing(), 0);
            x.set(SWING, 0);
            x.endDay();
            due("price(0)", x.price(0), 100000);
        });
        edge("a middle price that is a thousandth of a cent below", notBelow, () -> {
            withUnits();
            x.set(COST, 0);
            x.trade(990);
            x.leave(0, 101, 0);
            // 10100 of 10000 in cash: a lot is sold, and 989900 are there for 9899 units
            due("fairSwing()", x.fairSwing(), 0);
            x.set(COST, 1);
            // 989899 for 9899 units are 99999.9
            due("fairSwing()", x.fairSwing(), NONE);
            x.set(THRESHOLD, 0);
            due("fairSwing()", x.fairSwing(), 1);
        });
        edge("fairSwing when all leave", notBelow, () -> {
            withUnits();
            x.set(GATE, 1000);
            x.leave(0, 6000, 0);
            x.leave(1, 4000, 0);
            // without units the middle price is 100000
            due("fairSwing()", x.fairSwing(), 0);
            x.set(COST, 0);
            x.trade(100);
            x.quote(1001);
            due("price(0)", x.price(0), 100010);
            due("fairSwing()", x.fairSwing(), NONE);
        });
        edge("fairSwing changes nothing", "if it came now", () -> {
            withEverything();
            x.buy(1, 1000000, 0);
            String before = all();
            x.fairSwing();
            CHECK.holds("all is as before", all().equals(before));
        });
    }
}
