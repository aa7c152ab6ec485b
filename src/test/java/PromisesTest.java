/** Ordinary calls for each promise, with answers that were worked out by hand; the edges stand in the EdgesOf tests. */
public final class PromisesTest extends Scene {
    public static void main(String[] args) {
        Check.watch();
        constants();
        newObject();
        set();
        buy();
        leave();
        inKind();
        endDayPrice();
        endDayShares();
        endDayPayments();
        endDayIncome();
        endDayPools();
        quote();
        trade();
        income();
        pay();
        ofHolder();
        count();
        order();
        lastDay();
        price();
        exitIn();
        fairSwing();
        put();
        wipe();
        fault();
        carryOut();
        undo();
        save();
        restore();
        CHECK.end("PromisesTest");
    }

    private static void part(String name) {
        CHECK.part(name);
        fresh();
    }

    private static void partWithUnits(String name) {
        CHECK.part(name);
        withUnits();
    }

    private static void partWithOldUnits(String name) {
        CHECK.part(name);
        withOldUnits();
    }

    private static void constants() {
        part("constants");
        due("NO_SUCH", SwingUnits.NO_SUCH, -1);
        due("BAD_VALUE", SwingUnits.BAD_VALUE, -2);
        due("BAD_TEXT", SwingUnits.BAD_TEXT, -3);
        due("TOO_MANY", SwingUnits.TOO_MANY, -4);
        due("NOT_POSSIBLE", SwingUnits.NOT_POSSIBLE, -5);
        due("NONE", SwingUnits.NONE, -6);
        due("CUT", SwingUnits.CUT, 0);
        due("THRESHOLD", SwingUnits.THRESHOLD, 1);
        due("SWING", SwingUnits.SWING, 2);
        due("GATE", SwingUnits.GATE, 3);
        due("COST", SwingUnits.COST, 4);
    }

    private static void newObject() {
        part("promise 1, a new object");
        int[] counts = {0, 0, 1000, 0, 0, 0, 0, 0, 0, 0, 0, 0, 12, 50, 10, 100, 5, 0, 0};
        for (int what = 0; what < counts.length; what++) {
            due("count(" + what + ")", x.count(what), counts[what]);
        }
        for (int holder = 0; holder < 6; holder++) {
            for (int what = 0; what < 9; what++) {
                due("ofHolder(" + holder + ", " + what + ")", x.ofHolder(holder, what), 0);
            }
            due("exitIn(" + holder + ")", x.exitIn(holder), 0);
        }
        for (int what = 0; what < 6; what++) {
            due("lastDay(" + what + ")", x.lastDay(what), NONE);
        }
        due("price(0)", x.price(0), 100000);
        due("price(1)", x.price(1), 100000);
        due("price(2)", x.price(2), NONE);
        due("price(3)", x.price(3), 0);
        due("order(0, 0, 0)", x.order(0, 0, 0), NO_SUCH);
        due("order(1, 0, 0)", x.order(1, 0, 0), NO_SUCH);
        due("fault()", x.fault(), 0);
        due("undo()", x.undo(), NOT_POSSIBLE);
        due("restore(0)", x.restore(0), NOT_POSSIBLE);
        due("restore(1)", x.restore(1), NOT_POSSIBLE);
    }

    private static void set() {
        part("promise 2, set");
        int[] first = {12, 50, 10, 100, 5};
        for (int setting = 0; setting < 5; setting++) {
            due("set(" + setting + ", 20)", x.set(setting, 20), first[setting]);
            due("set(" + setting + ", 17)", x.set(setting, 17), 20);
            due("count(" + (12 + setting) + ")", x.count(12 + setting), 17);
        }
        due("count(18)", x.count(18), 6);
    }

    private static void buy() {
        part("promise 3, buy");
        due("buy(0, 1, 0)", x.buy(0, 1, 0), 0);
        due("buy(5, 1000000, 12)", x.buy(5, 1000000, 12), 1);
        due("buy(1, 30, 11)", x.buy(1, 30, 11), 0);
        due("buy(2, 40, 23)", x.buy(2, 40, 23), 1);
        due("count(9)", x.count(9), 4);
        due("count(10)", x.count(10), 0);
        dueOrder(0, 0, 0, 1, 0);
        dueOrder(0, 1, 1, 30, 0);
        dueOrder(0, 2, 5, 1000000, 1);
        dueOrder(0, 3, 2, 40, 1);
        x.set(CUT, 0);
        due("buy(0, 7, 0)", x.buy(0, 7, 0), 1);
        x.set(CUT, 23);
        due("buy(0, 8, 22)", x.buy(0, 8, 22), 0);
        due("buy(0, 9, 23)", x.buy(0, 9, 23), 1);
        dueOrder(0, 2, 0, 8, 0);
        dueOrder(0, 6, 0, 9, 1);
    }

    private static void leave() {
        partWithUnits("promise 4, leave");
        due("leave(0, 1000, 12)", x.leave(0, 1000, 12), 2);
        due("leave(1, 4000, 11)", x.leave(1, 4000, 11), 1);
        due("leave(0, 5000, 0)", x.leave(0, 5000, 0), 1);
        dueOrder(1, 0, 1, 4000, 1);
        dueOrder(1, 1, 0, 5000, 1);
        dueOrder(1, 2, 0, 1000, 2);
        due("ofHolder(0, 0)", x.ofHolder(0, 0), 6000);
        due("ofHolder(0, 3)", x.ofHolder(0, 3), 6000);
        due("count(10)", x.count(10), 3);
        due("count(11)", x.count(11), 10000);
    }

    private static void inKind() {
        partWithOldUnits("promise 5, inKind");
        x.set(COST, 0);
        x.trade(500);
        x.income(20000);
        // 10000 units, 500 lots, 520000 in cash, 2000 for the income of a unit
        due("inKind(0, 999)", x.inKind(0, 999), 49);
        due("count(0)", x.count(0), 520000 - 51948);
        due("count(1)", x.count(1), 451);
        due("count(4)", x.count(4), 9001);
        due("count(6)", x.count(6), 20000 - 1998);
        due("ofHolder(0, 0)", x.ofHolder(0, 0), 5001);
        due("ofHolder(0, 5)", x.ofHolder(0, 5), 51948);
        due("ofHolder(0, 8)", x.ofHolder(0, 8), 49);
        due("inKind(0, 1)", x.inKind(0, 1), 0);
        due("ofHolder(0, 5)", x.ofHolder(0, 5), 51948 + 52);
        due("lastDay(1)", x.lastDay(1), 0);
        due("count(8)", x.count(8), 1);

        partWithUnits("promise 5, new units and evening");
        x.income(10000);
        x.pay();
        x.income(20000);
        x.buy(0, 10000, 0);
        x.endDay();
        // 98 new units at 102000, each with an evening of 2
        due("count(7)", x.count(7), 196);
        due("inKind(0, 6049)", x.inKind(0, 6049), 0);
        due("ofHolder(0, 1)", x.ofHolder(0, 1), 0);
        due("ofHolder(0, 2)", x.ofHolder(0, 2), 49);
        due("count(7)", x.count(7), 98);
        due("count(6)", x.count(6), 20196 - 12098);
    }

    private static void endDayPrice() {
        part("promise 6, the first day");
        x.buy(0, 600000, 0);
        x.buy(3, 500, 12);
        due("endDay()", x.endDay(), 1);
        dueDay(6000, 0, 0, 2, 0, 0);
        due("price(2)", x.price(2), 100000);
        due("count(9)", x.count(9), 1);
        due("endDay()", x.endDay(), 2);
        dueDay(5, 0, 0, 2, 0, 0);
        due("count(9)", x.count(9), 0);
        due("ofHolder(3, 2)", x.ofHolder(3, 2), 5);

        partWithUnits("promise 6, beyond the threshold above 0");
        x.buy(2, 50001, 0);
        x.endDay();
        dueDay(495, 0, 0, 3, 0, 0);
        due("price(2)", x.price(2), 101000);
        due("price(0)", x.price(0), 100047);
        due("ofHolder(2, 4)", x.ofHolder(2, 4), 50001);
        due("count(0)", x.count(0), 1050001);

        partWithUnits("promise 6, beyond the threshold below 0");
        x.leave(0, 501, 0);
        x.endDay();
        dueDay(0, 501, 0, 1, 0, 0);
        due("price(2)", x.price(2), 99000);
        due("ofHolder(0, 5)", x.ofHolder(0, 5), 49599);
        due("price(0)", x.price(0), 100052);

        partWithUnits("promise 6, what comes in and what goes out are set against each other");
        x.leave(0, 1000, 0);
        x.buy(2, 50000, 0);
        due("price(1)", x.price(1), 100000);
        x.buy(3, 100001, 0);
        due("price(1)", x.price(1), 101000);
        x.buy(4, 100000, 12);
        due("price(1)", x.price(1), 101000);
        x.set(GATE, 0);
        x.set(SWING, 100);
        due("price(1)", x.price(1), 110000);
        x.set(THRESHOLD, 151);
        due("price(1)", x.price(1), 100000);
        x.endDay();
        dueDay(1500, 0, 0, 2, 1000, 0);
    }

    private static void endDayShares() {
        partWithUnits("promise 6, an earlier day goes first");
        x.leave(0, 1500, 0);
        x.endDay();
        x.leave(1, 600, 0);
        x.leave(1, 50, 20);
        dueOrder(1, 0, 0, 500, 1);
        x.endDay();
        dueDay(0, 900, 0, 1, 200, 0);
        dueOrder(1, 0, 1, 200, 2);
        dueOrder(1, 1, 1, 50, 3);
        due("count(10)", x.count(10), 2);

        partWithUnits("promise 6, nothing is left for later days");
        x.leave(0, 1500, 12);
        x.leave(1, 1000, 0);
        x.endDay();
        dueDay(0, 1000, 0, 1, 0, 0);
        x.leave(1, 300, 0);
        x.endDay();
        dueOrder(1, 0, 0, 750, 2);
        dueOrder(1, 1, 1, 150, 2);
        x.leave(1, 100, 0);
        x.set(GATE, 110);
        x.endDay();
        // 891 of 8100: 750 and 150 want to go whole, so the day 3 has to wait
        dueDay(0, 891, 0, 1, 109, 0);
        dueOrder(1, 0, 0, 750 - 743, 2);
        dueOrder(1, 1, 1, 150 - 148, 2);
        dueOrder(1, 2, 1, 100, 3);
    }

    private static void endDayPayments() {
        partWithUnits("promise 6, lots are sold for those who leave");
        x.trade(900);
        due("count(0)", x.count(0), 95500);
        x.leave(0, 1000, 0);
        x.endDay();
        due("price(2)", x.price(2), 98554);
        dueDay(0, 1000, 4, 1, 0, 0);
        due("count(0)", x.count(0), 926);
        due("count(1)", x.count(1), 896);
    }

    private static void endDayIncome() {
        partWithOldUnits("promise 6, units that are made are evened out");
        x.income(20000);
        x.buy(2, 10000, 0);
        x.buy(3, 10000, 0);
        x.endDay();
        // each 98 units at 102000, with 2000 thousandths, as it was at the beginning of the day's end
        due("count(6)", x.count(6), 20392);
        due("count(7)", x.count(7), 392);
        due("count(5)", x.count(5), 196);
        due("ofHolder(3, 1)", x.ofHolder(3, 1), 0);
        due("ofHolder(3, 2)", x.ofHolder(3, 2), 98);

        partWithOldUnits("promise 6, old units go first");
        x.set(GATE, 1000);
        x.set(THRESHOLD, 1000);
        x.income(20000);
        x.buy(0, 10000, 0);
        x.buy(1, 10000, 0);
        x.endDay();
        x.leave(0, 6000, 0);
        x.endDay();
        due("ofHolder(0, 1)", x.ofHolder(0, 1), 0);
        due("ofHolder(0, 2)", x.ofHolder(0, 2), 98);
        due("count(7)", x.count(7), 392);
        due("count(6)", x.count(6), 20392 - 12000);
        x.leave(0, 33, 0);
        x.endDay();
        due("ofHolder(0, 2)", x.ofHolder(0, 2), 65);
        due("count(7)", x.count(7), 392 - 66);
        due("ofHolder(1, 1)", x.ofHolder(1, 1), 4000);
        x.leave(1, 4000, 0);
        x.leave(1, 98, 0);
        x.leave(0, 65, 0);
        x.endDay();
        due("count(4)", x.count(4), 0);
        due("count(7)", x.count(7), 0);
    }

    private static void endDayPools() {
        partWithUnits("promise 6, the income pool is a part of the cash");
        x.trade(994);
        x.income(50000);
        x.leave(0, 400, 0);
        due("price(0)", x.price(0), 104503);
        x.endDay();
        due("ofHolder(0, 5)", x.ofHolder(0, 5), 41801);
        due("count(0)", x.count(0), 9229);
        due("count(6)", x.count(6), 9229);
        due("price(3)", x.price(3), 961);
    }

    private static void quote() {
        partWithUnits("promise 7, the value follows the quote");
        x.set(COST, 0);
        x.trade(500);
        due("quote(1200)", x.quote(1200), 1000);
        due("count(3)", x.count(3), 1100000);
        due("price(0)", x.price(0), 110000);
    }

    private static void trade() {
        partWithUnits("promise 8, trade");
        due("trade(100)", x.trade(100), 100);
        due("count(0)", x.count(0), 899500);
        due("trade(-40)", x.trade(-40), 60);
        due("count(0)", x.count(0), 899500 + 39800);
        x.quote(1001);
        // COST thousandths of the quote are 5.005, rounded up
        due("trade(1)", x.trade(1), 61);
        due("count(0)", x.count(0), 939300 - 1007);
        due("trade(-61)", x.trade(-61), 0);
        due("count(0)", x.count(0), 938293 + 61 * 995);
    }

    private static void income() {
        partWithUnits("promise 9, income");
        due("income(1)", x.income(1), 1);
        due("income(1000000)", x.income(1000000), 1000001);
        due("count(6)", x.count(6), 1000001);
        due("count(0)", x.count(0), 2000001);
        due("count(7)", x.count(7), 0);
        due("price(3)", x.price(3), 100000);
        due("price(0)", x.price(0), 200000);
    }

    private static void pay() {
        partWithOldUnits("promise 10, pay");
        x.income(20000);
        x.buy(2, 10000, 0);
        x.endDay();
        due("pay()", x.pay(), 20196);
        due("ofHolder(0, 6)", x.ofHolder(0, 6), 12000);
        due("ofHolder(0, 7)", x.ofHolder(0, 7), 0);
        due("ofHolder(1, 6)", x.ofHolder(1, 6), 8000);
        due("ofHolder(2, 6)", x.ofHolder(2, 6), 196);
        due("ofHolder(2, 7)", x.ofHolder(2, 7), 196);
        due("ofHolder(2, 1)", x.ofHolder(2, 1), 98);
        due("ofHolder(2, 2)", x.ofHolder(2, 2), 0);
        due("count(0)", x.count(0), 1030000 - 20196);
        due("count(5)", x.count(5), 0);
        due("count(6)", x.count(6), 0);
        due("count(7)", x.count(7), 0);

        partWithUnits("promise 10, what can't be shared stays");
        x.income(19999);
        // the income of a unit is 1999, so 11994 and 7996 are paid
        due("pay()", x.pay(), 19990);
        due("count(6)", x.count(6), 9);
        due("count(0)", x.count(0), 1000009);
        x.income(10);
        due("price(3)", x.price(3), 1);
        due("pay()", x.pay(), 10);
        due("ofHolder(0, 6)", x.ofHolder(0, 6), 12000);
    }

    private static void ofHolder() {
        partWithOldUnits("promise 11, ofHolder");
        x.set(COST, 0);
        x.trade(500);
        x.income(20000);
        x.buy(0, 10000, 0);
        x.endDay();
        x.leave(0, 100, 0);
        x.endDay();
        x.inKind(0, 50);
        x.leave(0, 7, 0);
        // 98 new units came at 102000; 100 old ones went at 102000, then 50 in kind of 9998: 2 lots and 2598 in cash
        int[] want = {5948, 5850, 98, 7, 610000, 10200 + 2599, 0, 0, 2};
        for (int what = 0; what < want.length; what++) {
            due("ofHolder(0, " + what + ")", x.ofHolder(0, what), want[what]);
        }
        x.pay();
        due("ofHolder(0, 1)", x.ofHolder(0, 1), 5948);
        due("ofHolder(0, 2)", x.ofHolder(0, 2), 0);
        due("ofHolder(0, 6)", x.ofHolder(0, 6), 11896);
        due("ofHolder(0, 7)", x.ofHolder(0, 7), 196);
    }

    private static void count() {
        partWithOldUnits("promise 12, count");
        x.set(CUT, 6);
        x.set(THRESHOLD, 40);
        x.set(SWING, 11);
        x.set(GATE, 90);
        x.set(COST, 3);
        x.trade(100);
        x.income(20000);
        x.quote(990);
        x.buy(2, 10000, 0);
        x.endDay();
        x.buy(2, 10, 0);
        x.buy(2, 10, 0);
        x.leave(0, 30, 0);
        x.leave(1, 40, 0);
        x.leave(1, 50, 6);
        write("d;d");
        // the value was 1018700, so 98 units came at 101870
        int[] want = {929700, 100, 990, 1028700, 10098, 98, 20196, 196, 2, 2, 3, 120, 6, 40, 11, 90, 3, 3, 6};
        for (int what = 0; what < want.length; what++) {
            due("count(" + what + ")", x.count(what), want[what]);
        }
    }

    private static void order() {
        partWithUnits("promise 13, order");
        x.buy(3, 77, 20);
        x.buy(4, 88, 0);
        x.leave(1, 99, 0);
        dueOrder(0, 0, 4, 88, 1);
        dueOrder(0, 1, 3, 77, 2);
        dueOrder(1, 0, 1, 99, 1);
    }

    private static void lastDay() {
        partWithUnits("promise 14, of a day with everything");
        x.trade(950);
        x.buy(2, 3000, 0);
        x.buy(2, 5, 0);
        x.leave(0, 1001, 0);
        x.leave(0, 77, 20);
        x.endDay();
        // 1000 units at 98505 are 98505; 45250 is there, and 54 lots bring 53730
        dueDay(30, 1000, 54, 1, 1, 5);
        due("price(2)", x.price(2), 98529);
    }

    private static void price() {
        partWithUnits("promise 15, price");
        x.leave(0, 1000, 0);
        x.income(7777);
        due("price(0)", x.price(0), 100777);
        due("price(1)", x.price(1), 99769);
        due("price(2)", x.price(2), 100000);
        due("price(3)", x.price(3), 777);
        due("count(8)", x.count(8), 1);
        due("count(10)", x.count(10), 1);
        x.endDay();
        due("price(2)", x.price(2), 99769);
    }

    private static void exitIn() {
        partWithUnits("promise 16, exitIn");
        due("exitIn(0)", x.exitIn(0), 0);
        x.leave(0, 3000, 0);
        due("exitIn(0)", x.exitIn(0), 4);
        due("exitIn(1)", x.exitIn(1), 0);
        x.leave(1, 10, 12);
        due("exitIn(1)", x.exitIn(1), 4);
        x.set(GATE, 0);
        due("exitIn(0)", x.exitIn(0), NONE);
        x.set(GATE, 1000);
        due("exitIn(0)", x.exitIn(0), 1);
        due("exitIn(1)", x.exitIn(1), 2);
        due("count(8)", x.count(8), 1);
        due("count(11)", x.count(11), 3010);
        due("price(2)", x.price(2), 100000);
        due("count(18)", x.count(18), 6);
    }

    private static void fairSwing() {
        partWithUnits("promise 17, fairSwing");
        due("fairSwing()", x.fairSwing(), 0);
        x.set(COST, 50);
        x.trade(900);
        x.leave(0, 1000, 0);
        due("price(0)", x.price(0), 95500);
        due("fairSwing()", x.fairSwing(), 22);
        due("count(14)", x.count(14), 10);
        due("count(8)", x.count(8), 1);
        due("count(1)", x.count(1), 900);
        x.set(SWING, 21);
        x.endDay();
        CHECK.holds("21 is not fair", x.price(0) < 95500);
        x.undo();
        x.set(SWING, 22);
        x.endDay();
        CHECK.holds("22 is fair", x.price(0) >= 95500);
    }

    private static void put() {
        part("promise 18, put");
        due("put d", x.put('d'), 1);
        due("put ;b0:5@1;", x.put(packed(";b0:5@1;")), 9);
        due("put p", x.put(packed("p")), 10);
        due("fault()", x.fault(), NONE);
        due("put ~~~~~~~~", x.put(packed("~~~~~~~~")), 18);
        due("put !", x.put(33), 19);
        due("count(17)", x.count(17), 19);
        due("count(18)", x.count(18), 0);
    }

    private static void wipe() {
        part("promise 19, wipe");
        due("wipe()", x.wipe(), 0);
        write("d;dd");
        due("wipe()", x.wipe(), 4);
        due("wipe()", x.wipe(), 0);
        due("count(17)", x.count(17), 0);
        write("p");
        due("fault()", x.fault(), NONE);
        due("carryOut()", x.carryOut(), 1);
        due("count(8)", x.count(8), 0);
        due("wipe()", x.wipe(), 0);
    }

    private static void fault() {
        part("promise 20, fault");
        String[] good = {"d", "p", "d;p", "b0:10", "b5:700@17", "l0:5", "l3:10@8", "q990", "i250", "b0:1;l1:2@3;q4;i5;d;p"};
        for (String text : good) {
            dueFault(text, NONE);
        }
        dueFault("b0:700@17x", 9);
        dueFault("l0:7;d;b1", 9);
        dueFault("q10;i;d", 5);
        dueFault("d;p;b0:5@12;x", 12);
    }

    private static void dueFault(String text, int want) {
        x.wipe();
        write(text);
        due("fault() of " + text, x.fault(), want);
        due("count(17) of " + text, x.count(17), text.length());
    }

    private static void carryOut() {
        part("promise 21, carryOut");
        due("carryOut()", x.carryOut(), BAD_TEXT);
        write("b0:600000;b1:400000@11;b2:5000@12;d;q2000;i20000;l0:100;l1:50@23;p");
        due("carryOut()", x.carryOut(), 9);
        due("count(17)", x.count(17), 0);
        due("count(18)", x.count(18), 1);
        due("count(8)", x.count(8), 1);
        due("count(2)", x.count(2), 2000);
        due("ofHolder(0, 6)", x.ofHolder(0, 6), 12000);
        dueOrder(0, 0, 2, 5000, 1);
        dueOrder(1, 0, 0, 100, 1);
        dueOrder(1, 1, 1, 50, 2);
        due("undo()", x.undo(), 0);
        due("count(4)", x.count(4), 0);
        due("count(2)", x.count(2), 1000);
        due("count(17)", x.count(17), 0);

        part("promise 21, up to the first error");
        write("b0:100;d;i0;d");
        due("carryOut()", x.carryOut(), 2);
        due("count(8)", x.count(8), 1);
        due("count(17)", x.count(17), 0);
        due("count(18)", x.count(18), 1);
        write("q0;d;d");
        due("carryOut()", x.carryOut(), 0);
        due("count(8)", x.count(8), 1);
        due("count(17)", x.count(17), 0);
        due("count(18)", x.count(18), 2);
        write("d;q10001");
        due("carryOut()", x.carryOut(), 1);
        write("d;l0:2;d");
        due("carryOut()", x.carryOut(), 1);
        write("d;b0:0;d");
        due("carryOut()", x.carryOut(), 1);
        write("l0:1;d;b1:100@0");
        due("carryOut()", x.carryOut(), 3);
        due("count(18)", x.count(18), 6);
        due("count(8)", x.count(8), 5);
    }

    private static void undo() {
        part("promise 22, undo");
        for (int i = 0; i < 8; i++) {
            x.quote(10 + i);
            due("count(18)", x.count(18), Math.min(6, i + 1));
        }
        for (int i = 5; i >= 0; i--) {
            due("undo()", x.undo(), i);
            due("count(2)", x.count(2), 11 + i);
        }
        due("undo()", x.undo(), NOT_POSSIBLE);
        due("count(2)", x.count(2), 11);
        x.quote(11);
        due("count(18)", x.count(18), 1);
        x.quote(99);
        x.undo();
        x.quote(12);
        due("count(18)", x.count(18), 2);
        due("undo()", x.undo(), 1);
        due("count(2)", x.count(2), 11);
    }

    private static void save() {
        part("promise 23, save");
        due("save(0)", x.save(0), 0);
        x.endDay();
        x.quote(7);
        due("save(1)", x.save(1), 1);
        due("count(18)", x.count(18), 2);
        x.endDay();
        x.quote(8);
        due("restore(1)", x.restore(1), 1);
        due("count(2)", x.count(2), 7);
        due("restore(0)", x.restore(0), 0);
        due("count(2)", x.count(2), 1000);
        due("lastDay(0)", x.lastDay(0), NONE);
        x.quote(9);
        due("save(1)", x.save(1), 0);
        x.endDay();
        x.quote(10);
        due("restore(1)", x.restore(1), 0);
        due("count(2)", x.count(2), 9);
    }

    private static void restore() {
        partWithUnits("promise 24, restore");
        due("count(18)", x.count(18), 3);
        x.save(1);
        write("dd");
        x.leave(0, 100, 0);
        x.endDay();
        due("restore(1)", x.restore(1), 1);
        due("count(18)", x.count(18), 6);
        due("count(17)", x.count(17), 2);
        due("count(10)", x.count(10), 0);
        due("count(4)", x.count(4), 10000);
        x.quote(50);
        due("restore(1)", x.restore(1), 1);
        due("count(2)", x.count(2), 1000);
        due("undo()", x.undo(), 5);
        due("count(2)", x.count(2), 50);
        due("undo()", x.undo(), 4);
        due("undo()", x.undo(), 3);
        due("count(8)", x.count(8), 2);
        due("count(4)", x.count(4), 9900);
    }
}
