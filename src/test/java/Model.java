import java.util.ArrayList;
import java.util.Arrays;
import java.util.List;
import java.util.regex.Matcher;
import java.util.regex.Pattern;

/**
 * The document once more, told in the longest way: states are copied whole, lots are sold one by one, texts are
 * judged by a pattern. The class is measured against it in ModelTest.
 */
final class Model {
    private static final int NO_SUCH = -1, BAD_VALUE = -2, BAD_TEXT = -3, TOO_MANY = -4, NOT_POSSIBLE = -5, NONE = -6;

    private static final class Order {
        final int holder;
        final long day;
        long size;

        Order(int holder, long size, long day) {
            this.holder = holder;
            this.size = size;
            this.day = day;
        }
    }

    private static final class State {
        long cash, lots, quote = 1000, incomePool, eveningPool, day;
        long[] settings = {12, 50, 10, 100, 5};
        // Per holder: 0 old, 1 new, 2 bought, 3 paid, 4 income, 5 evening, 6 lots
        long[][] holders = new long[6][7];
        List<Order> buys = new ArrayList<>(), leaves = new ArrayList<>();
        long[] last;
        long lastPrice;

        State copy() {
            State c = new State();
            c.cash = cash;
            c.lots = lots;
            c.quote = quote;
            c.incomePool = incomePool;
            c.eveningPool = eveningPool;
            c.day = day;
            c.settings = settings.clone();
            for (int i = 0; i < 6; i++) {
                c.holders[i] = holders[i].clone();
            }
            for (Order o : buys) {
                c.buys.add(new Order(o.holder, o.size, o.day));
            }
            for (Order o : leaves) {
                c.leaves.add(new Order(o.holder, o.size, o.day));
            }
            c.last = last == null ? null : last.clone();
            c.lastPrice = lastPrice;
            return c;
        }

        long value() {
            return cash + lots * quote;
        }

        long issue() {
            return Arrays.stream(holders).mapToLong(h -> h[0] + h[1]).sum();
        }

        long fresh() {
            return Arrays.stream(holders).mapToLong(h -> h[1]).sum();
        }

        long middle() {
            return issue() == 0 ? 100000 : Math.floorDiv(1000 * value(), issue());
        }

        long unitIncome() {
            return issue() == 0 ? 0 : Math.floorDiv(1000 * incomePool, issue());
        }

        long bound(int holder) {
            return leaves.stream().filter(o -> o.holder == holder).mapToLong(o -> o.size).sum();
        }

        long costPart() {
            return -Math.floorDiv(-quote * settings[4], 1000);
        }

        void insert(List<Order> list, Order order) {
            int at = 0;
            for (int i = 0; i < list.size(); i++) {
                if (list.get(i).day <= order.day) {
                    at = i + 1;
                }
            }
            list.add(at, order);
        }

        long dueSum(List<Order> list) {
            return list.stream().filter(o -> o.day <= day).mapToLong(o -> o.size).sum();
        }

        long mayLeave() {
            return Math.min(dueSum(leaves), Math.floorDiv(settings[3] * issue(), 1000));
        }

        int direction() {
            if (issue() == 0) {
                return 0;
            }
            long flow = dueSum(buys) - Math.floorDiv(mayLeave() * middle(), 1000);
            if (flow > 0 && 1000 * flow > settings[1] * value()) {
                return 1;
            }
            if (flow < 0 && 1000 * flow < -settings[1] * value()) {
                return -1;
            }
            return 0;
        }

        long priceNow() {
            long m = middle();
            switch (direction()) {
                case 1: return Math.floorDiv((1000 + settings[2]) * m, 1000);
                case -1: return Math.floorDiv((1000 - settings[2]) * m, 1000);
                default: return m;
            }
        }

        void cap() {
            if (incomePool > cash) {
                incomePool = cash;
            }
        }

        void make(int h, long units, long amount, long perUnit) {
            long part = Math.floorDiv(units * perUnit, 1000);
            cash += amount;
            holders[h][1] += units;
            holders[h][2] += amount;
            incomePool += part;
            eveningPool += part;
            cap();
        }

        void go(int h, long units, long paid, long perUnit) {
            long allNew = fresh();
            long v = Math.max(0, units - holders[h][0]);
            cash -= paid;
            holders[h][3] += paid;
            holders[h][0] -= units - v;
            holders[h][1] -= v;
            incomePool -= Math.floorDiv(units * perUnit, 1000);
            if (incomePool < 0) {
                incomePool = 0;
            }
            if (v > 0) {
                eveningPool -= Math.floorDiv(v * eveningPool, allNew);
            }
            cap();
        }

        List<Long> daysOfLeavers() {
            List<Long> days = new ArrayList<>();
            for (Order o : leaves) {
                if (o.day <= day && !days.contains(o.day)) {
                    days.add(o.day);
                }
            }
            return days;
        }

        long[] shares() {
            long[] shares = new long[leaves.size()];
            long rest = mayLeave();
            for (long d : daysOfLeavers()) {
                long all = leaves.stream().filter(o -> o.day == d).mapToLong(o -> o.size).sum();
                if (all <= rest) {
                    for (int i = 0; i < shares.length; i++) {
                        if (leaves.get(i).day == d) {
                            shares[i] = leaves.get(i).size;
                        }
                    }
                    rest -= all;
                    continue;
                }
                long given = 0;
                for (int i = 0; i < shares.length; i++) {
                    if (leaves.get(i).day == d) {
                        shares[i] = Math.floorDiv(leaves.get(i).size * rest, all);
                        given += shares[i];
                    }
                }
                for (int i = 0; given < rest; i = (i + 1) % shares.length) {
                    if (leaves.get(i).day == d && shares[i] < leaves.get(i).size) {
                        shares[i]++;
                        given++;
                    }
                }
                rest = 0;
            }
            return shares;
        }

        int endDay() {
            long perUnit = unitIncome(), price = priceNow(), wanted = dueSum(leaves);
            int direction = direction();
            long[] shares = shares();
            long left = 0, sold = 0, made = 0, back = 0;
            for (int i = 0; i < shares.length; i++) {
                if (shares[i] == 0) {
                    continue;
                }
                Order o = leaves.get(i);
                long due = Math.floorDiv(shares[i] * price, 1000);
                while (cash < due && lots > 0) {
                    lots--;
                    sold++;
                    cash += quote - costPart();
                }
                if (cash < due) {
                    break;
                }
                go(o.holder, shares[i], due, perUnit);
                o.size -= shares[i];
                left += shares[i];
            }
            leaves.removeIf(o -> o.size == 0);
            for (Order o : new ArrayList<>(buys)) {
                if (o.day > day) {
                    continue;
                }
                buys.remove(o);
                long units = price == 0 ? 0 : Math.floorDiv(1000 * o.size, price);
                if (units == 0 || issue() + units > 1000000000L) {
                    back += o.size;
                } else {
                    make(o.holder, units, o.size, perUnit);
                    made += units;
                }
            }
            day++;
            last = new long[] {made, left, sold, direction + 2, wanted - left, back};
            lastPrice = price;
            return (int) day;
        }

        int buy(int holder, int amount, int hour) {
            if (holder < 0 || holder > 5) return NO_SUCH;
            if (amount < 1 || amount > 1000000 || hour < 0 || hour > 23) return BAD_VALUE;
            if (buys.size() == 20) return TOO_MANY;
            long d = hour < settings[0] ? day : day + 1;
            insert(buys, new Order(holder, amount, d));
            return (int) d;
        }

        int leave(int holder, int units, int hour) {
            if (holder < 0 || holder > 5) return NO_SUCH;
            if (units < 1 || hour < 0 || hour > 23) return BAD_VALUE;
            if (leaves.size() == 20) return TOO_MANY;
            if (holders[holder][0] + holders[holder][1] - bound(holder) < units) return NOT_POSSIBLE;
            long d = hour < settings[0] ? day : day + 1;
            insert(leaves, new Order(holder, units, d));
            return (int) d;
        }

        int inKind(int holder, int units) {
            if (holder < 0 || holder > 5) return NO_SUCH;
            if (units < 1) return BAD_VALUE;
            if (holders[holder][0] + holders[holder][1] - bound(holder) < units) return NOT_POSSIBLE;
            long gotLots = Math.floorDiv(units * lots, issue()), gotCash = Math.floorDiv(units * cash, issue());
            lots -= gotLots;
            holders[holder][6] += gotLots;
            go(holder, units, gotCash, unitIncome());
            return (int) gotLots;
        }

        int quote(int q) {
            if (q < 1 || q > 10000) return BAD_VALUE;
            long before = quote;
            quote = q;
            return (int) before;
        }

        int trade(int n) {
            if (n == 0 || n < -1000 || n > 1000) return BAD_VALUE;
            if (lots + n > 1000) return TOO_MANY;
            if (lots + n < 0) return NOT_POSSIBLE;
            if (n > 0 && n * (quote + costPart()) > cash - incomePool) return NOT_POSSIBLE;
            cash -= n > 0 ? n * (quote + costPart()) : n * (quote - costPart());
            lots += n;
            return (int) lots;
        }

        int income(int amount) {
            if (amount < 1 || amount > 1000000) return BAD_VALUE;
            if (issue() == 0) return NOT_POSSIBLE;
            cash += amount;
            incomePool += amount;
            return (int) incomePool;
        }

        int pay() {
            long r = unitIncome(), e = fresh() == 0 ? 0 : Math.floorDiv(1000 * eveningPool, fresh()), total = 0;
            for (long[] h : holders) {
                long payment = Math.floorDiv((h[0] + h[1]) * r, 1000);
                h[4] += payment;
                h[5] += Math.min(payment, Math.floorDiv(h[1] * e, 1000));
                total += payment;
                h[0] += h[1];
                h[1] = 0;
            }
            cash -= total;
            incomePool -= total;
            eveningPool = 0;
            return (int) total;
        }
    }

    private static final String NUMBER = "(?:0|[1-9][0-9]{0,5}|1000000)";
    private static final String HOUR = "(?:[0-9]|1[0-9]|2[0-3])";
    private static final String ONE = "(?:[bl][0-5]:" + NUMBER + "(?:@" + HOUR + ")?|[qi]" + NUMBER + "|d|p)";
    private static final Pattern TEXT = Pattern.compile(ONE + "(?:;" + ONE + ")*");

    private State now = new State();
    private final List<State> history = new ArrayList<>();
    private final State[] slots = new State[2];
    private String pad = "";

    private int recorded(State before, int answer) {
        if (answer >= 0) {
            history.add(before);
            if (history.size() > 6) {
                history.remove(0);
            }
        }
        return answer;
    }

    int set(int setting, int value) {
        int[] most = {23, 1000, 100, 1000, 50};
        if (setting < 0 || setting > 4 || value < 0 || value > most[setting]) return BAD_VALUE;
        State before = now.copy();
        long previous = now.settings[setting];
        now.settings[setting] = value;
        return recorded(before, (int) previous);
    }

    int buy(int holder, int amount, int hour) {
        State before = now.copy();
        return recorded(before, now.buy(holder, amount, hour));
    }

    int leave(int holder, int units, int hour) {
        State before = now.copy();
        return recorded(before, now.leave(holder, units, hour));
    }

    int inKind(int holder, int units) {
        State before = now.copy();
        return recorded(before, now.inKind(holder, units));
    }

    int endDay() {
        State before = now.copy();
        return recorded(before, now.endDay());
    }

    int quote(int q) {
        State before = now.copy();
        return recorded(before, now.quote(q));
    }

    int trade(int n) {
        State before = now.copy();
        return recorded(before, now.trade(n));
    }

    int income(int amount) {
        State before = now.copy();
        return recorded(before, now.income(amount));
    }

    int pay() {
        State before = now.copy();
        return recorded(before, now.pay());
    }

    int ofHolder(int holder, int what) {
        if (holder < 0 || holder > 5) return NO_SUCH;
        if (what < 0 || what > 8) return BAD_VALUE;
        long[] h = now.holders[holder];
        return (int) new long[] {h[0] + h[1], h[0], h[1], now.bound(holder), h[2], h[3], h[4], h[5], h[6]}[what];
    }

    int count(int what) {
        if (what < 0 || what > 18) return BAD_VALUE;
        State s = now;
        long[] all = {s.cash, s.lots, s.quote, s.value(), s.issue(), s.fresh(), s.incomePool, s.eveningPool, s.day,
            s.buys.size(), s.leaves.size(), s.leaves.stream().mapToLong(o -> o.size).sum(),
            s.settings[0], s.settings[1], s.settings[2], s.settings[3], s.settings[4], pad.length(), history.size()};
        return (int) all[what];
    }

    int order(int kind, int order, int what) {
        if (kind < 0 || kind > 1 || what < 0 || what > 2) return BAD_VALUE;
        List<Order> list = kind == 0 ? now.buys : now.leaves;
        if (order < 0 || order >= list.size()) return NO_SUCH;
        Order o = list.get(order);
        return (int) new long[] {o.holder, o.size, o.day}[what];
    }

    int lastDay(int what) {
        if (what < 0 || what > 5) return BAD_VALUE;
        return now.last == null ? NONE : (int) now.last[what];
    }

    long price(int what) {
        switch (what) {
            case 0: return now.middle();
            case 1: return now.priceNow();
            case 2: return now.last == null ? NONE : now.lastPrice;
            case 3: return now.unitIncome();
            default: return BAD_VALUE;
        }
    }

    int exitIn(int holder) {
        if (holder < 0 || holder > 5) return NO_SUCH;
        State trial = now.copy();
        int days = 0;
        while (trial.bound(holder) > 0) {
            if (days == 60) return NONE;
            trial.endDay();
            days++;
        }
        return days;
    }

    int fairSwing() {
        for (int swing = 0; swing <= 100; swing++) {
            State trial = now.copy();
            trial.settings[2] = swing;
            trial.endDay();
            if (trial.middle() >= now.middle()) return swing;
        }
        return NONE;
    }

    int put(long characters) {
        String text = "";
        boolean over = false;
        for (int i = 7; i >= 0; i--) {
            int code = (int) (characters >>> 8 * i) & 255;
            if (code == 0 && text.isEmpty()) continue;
            if (code < 33 || code > 126) over = true;
            text += (char) code;
        }
        if (text.isEmpty() || over) return BAD_VALUE;
        if (pad.length() + text.length() > 80) return TOO_MANY;
        pad += text;
        return pad.length();
    }

    int wipe() {
        int length = pad.length();
        pad = "";
        return length;
    }

    int fault() {
        for (int i = 1; i <= pad.length(); i++) {
            Matcher m = TEXT.matcher(pad.substring(0, i));
            if (!m.matches() && !m.hitEnd()) return i - 1;
        }
        return TEXT.matcher(pad).matches() ? NONE : pad.length();
    }

    int carryOut() {
        if (fault() != NONE) return BAD_TEXT;
        State before = now.copy();
        int done = 0;
        for (String one : pad.split(";")) {
            if (obey(one) < 0) break;
            done++;
        }
        pad = "";
        return recorded(before, done);
    }

    private int obey(String one) {
        String[] parts = one.substring(1).split("[:@]");
        int[] n = new int[3];
        for (int i = 0; i < parts.length && !parts[i].isEmpty(); i++) {
            n[i] = Integer.parseInt(parts[i]);
        }
        switch (one.charAt(0)) {
            case 'b': return now.buy(n[0], n[1], n[2]);
            case 'l': return now.leave(n[0], n[1], n[2]);
            case 'q': return now.quote(n[0]);
            case 'i': return now.income(n[0]);
            case 'd': return now.endDay();
            default: return now.pay();
        }
    }

    int undo() {
        if (history.isEmpty()) return NOT_POSSIBLE;
        now = history.remove(history.size() - 1);
        return history.size();
    }

    int save(int slot) {
        if (slot < 0 || slot > 1) return BAD_VALUE;
        slots[slot] = now.copy();
        return (int) now.day;
    }

    int restore(int slot) {
        if (slot < 0 || slot > 1) return BAD_VALUE;
        if (slots[slot] == null) return NOT_POSSIBLE;
        State before = now;
        now = slots[slot].copy();
        return recorded(before, (int) now.day);
    }
}
