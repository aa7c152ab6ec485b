/** The edges that promises 22 to 24 name: undo, save, restore. */
public final class EdgesOfStatesTest extends Edges {
    public static void main(String[] args) {
        Check.watch();
        run();
        CHECK.end("EdgesOfStatesTest");
    }

    static void run() {
        undo();
        recordedChanges();
        undoneChanges();
        save();
        restore();
    }

    private static void undo() {
        section("## Promise 22: undo");
        edge("nothing to be undone", "NOT_POSSIBLE if there is none.", () -> {
            due("undo()", x.undo(), NOT_POSSIBLE);
            x.quote(5);
            due("undo()", x.undo(), 0);
            due("undo()", x.undo(), NOT_POSSIBLE);
            due("count(2)", x.count(2), 1000);
        });
        String most = "A history of at most 6 states is kept";
        edge("6 changes are undone", most, () -> dueUndone(6));
        edge("of 7 changes the latest 6 are undone", "when one more is recorded, the oldest one is dropped.", () -> dueUndone(7));
        edge("of 14 changes the latest 6 are undone", "when one more is recorded, the oldest one is dropped.", () -> dueUndone(14));
        edge("of 100 changes the latest 6 are undone", "when one more is recorded, the oldest one is dropped.", () -> dueUndone(100));
        edge("changes behind an undo", most, () -> {
            for (int round = 0; round < 15; round++) {
                x.quote(100 + round);
                x.quote(200);
                due("undo()", x.undo(), Math.min(round + 1, 5));
                due("count(2)", x.count(2), 100 + round);
            }
            for (int i = 4; i >= 0; i--) {
                due("undo()", x.undo(), i);
                due("count(2)", x.count(2), 109 + i);
            }
            due("undo()", x.undo(), NOT_POSSIBLE);
        });
        edge("what was undone can't be undone again", most, () -> {
            x.quote(1);
            x.quote(2);
            x.quote(3);
            x.undo();
            x.undo();
            x.quote(4);
            due("undo()", x.undo(), 1);
            due("count(2)", x.count(2), 1);
            due("undo()", x.undo(), 0);
            due("count(2)", x.count(2), 1000);
        });
    }

    private static void dueUndone(int changes) {
        for (int i = 1; i <= changes; i++) {
            x.quote(i);
        }
        for (int i = 5; i >= 0; i--) {
            due("undo()", x.undo(), i);
            int left = changes - 6 + i;
            due("count(2)", x.count(2), left == 0 ? 1000 : left);
        }
        due("undo()", x.undo(), NOT_POSSIBLE);
    }

    private static void recordedChanges() {
        String also = "records the state before it (also if nothing is different then)";
        edge("changes after which nothing is different are recorded", also, () -> {
            due("set(CUT, 12)", x.set(CUT, 12), 12);
            due("count(18)", x.count(18), 1);
            x.quote(1000);
            due("count(18)", x.count(18), 2);
            x.pay();
            due("count(18)", x.count(18), 3);
            x.save(0);
            x.restore(0);
            due("count(18)", x.count(18), 4);
            write("q0");
            x.carryOut();
            due("count(18)", x.count(18), 5);
        });
        edge("each change that returns 0 is recorded", also, () -> {
            x.set(SWING, 0);
            x.set(SWING, 0);
            x.buy(0, 600000, 0);
            due("count(18)", x.count(18), 3);
            fresh();
            withUnits();
            x.inKind(0, 1);
            x.trade(1);
            x.trade(-1);
            due("count(18)", x.count(18), 6);
            fresh();
            x.save(0);
            x.restore(0);
            due("count(18)", x.count(18), 1);
        });
        String noError = "each method that is a change, and returns no error";
        edge("what is no change records nothing", noError, () -> {
            x.wipe();
            x.put('d');
            x.fault();
            x.wipe();
            x.exitIn(0);
            x.fairSwing();
            x.save(1);
            x.price(1);
            x.count(0);
            x.ofHolder(0, 0);
            x.order(0, 0, 0);
            x.lastDay(0);
            x.undo();
            due("count(18)", x.count(18), 0);
        });
        edge("what returns an error records nothing", noError, () -> {
            x.set(9, 1);
            x.buy(6, 1, 0);
            x.leave(0, 1, 0);
            x.inKind(0, 1);
            x.quote(0);
            x.trade(1);
            x.income(1);
            x.carryOut();
            x.restore(0);
            due("count(18)", x.count(18), 0);
        });
        edge("an order of a text records nothing by itself", "An order of a text records nothing by itself.", () -> {
            write("d;d;q5;b0:100;p;d;d;d;d");
            x.carryOut();
            due("count(18)", x.count(18), 1);
            due("undo()", x.undo(), 0);
            due("count(8)", x.count(8), 0);
            due("undo()", x.undo(), NOT_POSSIBLE);
        });
    }

    private static void undoneChanges() {
        String except = "everything except the pad, the slots and the history is as it was before it.";
        edge("the pad is not undone", except, () -> {
            x.quote(5);
            write("d;");
            due("undo()", x.undo(), 0);
            due("count(17)", x.count(17), 2);
            x.put('p');
            due("carryOut()", x.carryOut(), 2);
            x.undo();
            due("count(17)", x.count(17), 0);
            due("count(8)", x.count(8), 0);
        });
        edge("the slots are not undone", except, () -> {
            x.quote(5);
            x.save(0);
            x.undo();
            due("count(2)", x.count(2), 1000);
            due("restore(0)", x.restore(0), 0);
            due("count(2)", x.count(2), 5);
        });
        for (int i = 0; i < 5; i++) {
            int setting = i;
            undone("set(" + setting + ", 1)", () -> x.set(setting, 1));
        }
        undone("buy", () -> x.buy(1, 5, 0));
        undone("leave", () -> x.leave(1, 5, 0));
        undone("inKind", () -> x.inKind(2, 50));
        undone("endDay", () -> x.endDay());
        undone("quote", () -> x.quote(77));
        undone("trade", () -> x.trade(-5));
        undone("income", () -> x.income(5));
        undone("pay", () -> x.pay());
        undone("carryOut", () -> {
            write("q5;b3:1000;p;d;b3:1000000;d");
            x.carryOut();
        });
        undone("restore", () -> {
            x.quote(77);
            x.save(0);
            x.undo();
            x.restore(0);
        });
    }

    private static void undone(String name, Edge change) {
        edge(name + " is undone", "everything except the pad, the slots and the history is as it was before it.", () -> {
            withEverything();
            String before = state();
            change.run();
            CHECK.holds("something is changed", !state().equals(before));
            due("undo()", x.undo(), 5);
            CHECK.holds("all is as before", state().equals(before));
        });
    }

    private static void save() {
        section("## Promise 23: save");
        edge("save in no such slot", "BAD_VALUE if there is no such slot.", () ->
            dueBad("save", x::save, -1, 2, LEAST, MOST));
        edge("save in the first and the last slot", "- `slot`: 0 or 1", () -> {
            due("save(0)", x.save(0), 0);
            x.endDay();
            due("save(1)", x.save(1), 1);
            x.endDay();
            due("restore(0)", x.restore(0), 0);
            due("restore(1)", x.restore(1), 1);
        });
        edge("save overwrites", "and overwrites what was saved there.", () -> {
            x.quote(5);
            x.save(0);
            x.quote(6);
            x.save(0);
            x.quote(7);
            x.restore(0);
            due("count(2)", x.count(2), 6);
        });
        String except = "Saves everything except the pad, the history and the slots in a slot";
        edge("save keeps the other slot", except, () -> {
            x.quote(5);
            x.save(1);
            x.quote(6);
            x.save(0);
            x.restore(1);
            due("count(2)", x.count(2), 5);
            x.restore(0);
            due("count(2)", x.count(2), 6);
        });
        edge("the pad is not saved", except, () -> {
            write("d;d");
            x.save(0);
            x.wipe();
            write("p");
            x.restore(0);
            due("count(17)", x.count(17), 1);
            due("carryOut()", x.carryOut(), 1);
            due("count(8)", x.count(8), 0);
        });
        edge("the history is not saved", except, () -> {
            x.quote(5);
            x.quote(6);
            x.save(0);
            x.undo();
            x.undo();
            x.restore(0);
            due("count(18)", x.count(18), 1);
        });
        edge("everything else is saved", except, () -> {
            withEverything();
            String before = state();
            x.save(0);
            write("q5;b3:1000;i5;p;d;l1:7;b3:1000000;d");
            x.carryOut();
            for (int setting = 0; setting < 5; setting++) {
                x.set(setting, 1);
            }
            x.trade(-1);
            x.restore(0);
            CHECK.holds("all is as it was saved", state().equals(before));
        });
        edge("full rows of orders are saved", except, () -> {
            withUnits();
            for (int i = 0; i < 20; i++) {
                x.buy(i % 6, 100 + i, i < 10 ? 0 : 12);
                x.leave(i % 2, 10 + i, i < 5 ? 0 : 12);
            }
            x.save(0);
            x.set(GATE, 1000);
            x.endDay();
            x.endDay();
            due("count(9)", x.count(9), 0);
            due("count(10)", x.count(10), 0);
            for (int i = 0; i < 20; i++) {
                x.buy(3, 7, 0);
                x.leave(1, 1, 0);
            }
            x.restore(0);
            for (int i = 0; i < 20; i++) {
                dueOrder(0, i, i % 6, 100 + i, i < 10 ? 1 : 2);
                dueOrder(1, i, i % 2, 10 + i, i < 5 ? 1 : 2);
            }
        });
    }

    private static void restore() {
        section("## Promise 24: restore");
        edge("restore of no such slot", "BAD_VALUE if there is no such slot", () -> {
            x.save(0);
            x.save(1);
            dueBad("restore", x::restore, -1, 2, LEAST, MOST);
        });
        String nothing = "NOT_POSSIBLE if nothing was saved in it.";
        edge("restore of what was never saved", nothing, () -> {
            due("restore(0)", x.restore(0), NOT_POSSIBLE);
            due("restore(1)", x.restore(1), NOT_POSSIBLE);
        });
        edge("restore of the slot beside the one that was saved", nothing, () -> {
            x.save(0);
            due("restore(1)", x.restore(1), NOT_POSSIBLE);
            fresh();
            x.save(1);
            due("restore(0)", x.restore(0), NOT_POSSIBLE);
        });
        edge("a slot keeps what was saved in it", "Restores what was saved last in a slot, which keeps it.", () -> {
            x.quote(5);
            x.save(0);
            for (int i = 0; i < 3; i++) {
                write("q7;b0:100;d");
                x.carryOut();
                due("restore(0)", x.restore(0), 0);
                due("count(2)", x.count(2), 5);
                due("count(4)", x.count(4), 0);
                due("count(9)", x.count(9), 0);
            }
        });
        edge("restore is a change of a full history", "This is a change.", () -> {
            x.quote(5);
            x.save(0);
            for (int i = 0; i < 6; i++) {
                x.quote(10 + i);
            }
            x.restore(0);
            due("count(18)", x.count(18), 6);
            due("undo()", x.undo(), 5);
            due("count(2)", x.count(2), 15);
        });
        edge("the day of what is restored", "Returns the day then", () -> {
            x.endDay();
            x.endDay();
            x.save(0);
            x.endDay();
            due("restore(0)", x.restore(0), 2);
            due("count(8)", x.count(8), 2);
            due("buy(0, 1, 0)", x.buy(0, 1, 0), 2);
        });
    }
}
