/** The dealing of a unit trust, as the document of the project promises it. */
public final class SwingUnits {
    public static final int NO_SUCH = -1, BAD_VALUE = -2, BAD_TEXT = -3, TOO_MANY = -4, NOT_POSSIBLE = -5, NONE = -6;
    public static final int CUT = 0, THRESHOLD = 1, SWING = 2, GATE = 3, COST = 4;

    private static final int SETTINGS = 5, HOLDERS = 6, SLOTS = 2;
    private static final int MOST_ORDERS = 20, MOST_LOTS = 1000, MOST_QUOTE = 10000;
    private static final int MOST_MONEY = 1000000, MOST_UNITS = 1000000000, LAST_HOUR = 23;
    private static final int FIRST_QUOTE = 1000, FIRST_MIDDLE = 100000;
    private static final int PAD_SIZE = 80, HISTORY_SIZE = 6;
    private static final int LONGEST_EXIT = 60, MOST_SWING = 100;
    private static final int FACTS_OF_HOLDER = 9, FACTS_OF_TRUST = 19, FACTS_OF_ORDER = 3, FACTS_OF_DAY = 6, PRICES = 4;
    private static final int[] GREATEST = {23, 1000, 100, 1000, 50};

    private final Trust trust;
    private final Trust trial;
    private final DayEnd dayEnd;
    private final Pad pad;
    private final History history;
    private final Trust[] slots;
    private final boolean[] saved;

    public SwingUnits() {
        trust = new Trust();
        trial = new Trust();
        dayEnd = new DayEnd();
        pad = new Pad();
        history = new History();
        slots = new Trust[SLOTS];
        for (int slot = 0; slot < SLOTS; slot++) {
            slots[slot] = new Trust();
        }
        saved = new boolean[SLOTS];
    }

    // ---- orders

    public int set(int setting, int value) {
        history.hold(trust);
        return history.keep(trust.changeSetting(setting, value));
    }

    public int buy(int holder, int amount, int hour) {
        history.hold(trust);
        return history.keep(trust.orderToBuy(holder, amount, hour));
    }

    public int leave(int holder, int units, int hour) {
        history.hold(trust);
        return history.keep(trust.orderToLeave(holder, units, hour));
    }

    public int inKind(int holder, int units) {
        history.hold(trust);
        return history.keep(trust.exitInKind(holder, units));
    }

    public int endDay() {
        history.hold(trust);
        return history.keep(dayEnd.run(trust));
    }

    // ---- the trust

    public int quote(int quote) {
        history.hold(trust);
        return history.keep(trust.changeQuote(quote));
    }

    public int trade(int lots) {
        history.hold(trust);
        return history.keep(trust.tradeLots(lots));
    }

    public int income(int amount) {
        history.hold(trust);
        return history.keep(trust.takeIncome(amount));
    }

    public int pay() {
        history.hold(trust);
        return history.keep(trust.payIncome());
    }

    // ---- what there is

    public int ofHolder(int holder, int what) {
        if (!isHolder(holder)) {
            return NO_SUCH;
        }
        if (what < 0 || what >= FACTS_OF_HOLDER) {
            return BAD_VALUE;
        }
        Holder one = trust.holders[holder];
        switch (what) {
            case 0: return (int) one.units();
            case 1: return (int) one.oldUnits;
            case 2: return (int) one.newUnits;
            case 3: return (int) trust.leaving.sumOf(holder);
            case 4: return (int) one.bought;
            case 5: return (int) one.paid;
            case 6: return (int) one.income;
            case 7: return (int) one.evening;
            default: return (int) one.lots;
        }
    }

    public int count(int what) {
        if (what < 0 || what >= FACTS_OF_TRUST) {
            return BAD_VALUE;
        }
        switch (what) {
            case 0: return (int) trust.cash;
            case 1: return trust.lots;
            case 2: return trust.quote;
            case 3: return (int) trust.value();
            case 4: return (int) trust.units();
            case 5: return (int) trust.newUnits();
            case 6: return (int) trust.incomePool;
            case 7: return (int) trust.eveningPool;
            case 8: return trust.day;
            case 9: return trust.buying.count;
            case 10: return trust.leaving.count;
            case 11: return (int) trust.leaving.sum(0, trust.leaving.count);
            case 17: return pad.length;
            case 18: return history.count;
            default: return trust.settings[what - 12];
        }
    }

    public int order(int kind, int order, int what) {
        if (kind < 0 || kind > 1 || what < 0 || what >= FACTS_OF_ORDER) {
            return BAD_VALUE;
        }
        Orders orders = kind == 0 ? trust.buying : trust.leaving;
        if (order < 0 || order >= orders.count) {
            return NO_SUCH;
        }
        switch (what) {
            case 0: return orders.holders[order];
            case 1: return orders.sizes[order];
            default: return orders.days[order];
        }
    }

    public int lastDay(int what) {
        if (what < 0 || what >= FACTS_OF_DAY) {
            return BAD_VALUE;
        }
        LastDay last = trust.last;
        if (!last.ended) {
            return NONE;
        }
        switch (what) {
            case 0: return (int) last.made;
            case 1: return (int) last.left;
            case 2: return last.lotsSold;
            case 3: return last.swung + 2;
            case 4: return (int) last.stillWaiting;
            default: return (int) last.givenBack;
        }
    }

    public long price(int what) {
        if (what < 0 || what >= PRICES) {
            return BAD_VALUE;
        }
        switch (what) {
            case 0: return trust.middle();
            case 1: return dayEnd.priceOf(trust);
            case 2: return trust.last.ended ? trust.last.price : NONE;
            default: return trust.unitIncome();
        }
    }

    // ---- what if; nothing changes

    public int exitIn(int holder) {
        if (!isHolder(holder)) {
            return NO_SUCH;
        }
        trial.become(trust);
        for (int days = 0; days <= LONGEST_EXIT; days++) {
            if (trial.leaving.sumOf(holder) == 0) {
                return days;
            }
            dayEnd.run(trial);
        }
        return NONE;
    }

    public int fairSwing() {
        long ahead = trust.middle();
        for (int swing = 0; swing <= MOST_SWING; swing++) {
            trial.become(trust);
            trial.settings[SWING] = swing;
            dayEnd.run(trial);
            if (trial.middle() >= ahead) {
                return swing;
            }
        }
        return NONE;
    }

    // ---- texts

    public int put(long characters) {
        int count = Pad.countCharacters(characters);
        if (count == 0) {
            return BAD_VALUE;
        }
        if (pad.length + count > PAD_SIZE) {
            return TOO_MANY;
        }
        pad.append(characters, count);
        return pad.length;
    }

    public int wipe() {
        return pad.empty();
    }

    public int fault() {
        return pad.findFault();
    }

    public int carryOut() {
        if (pad.findFault() != NONE) {
            return BAD_TEXT;
        }
        history.hold(trust);
        int done = carryOutOrders();
        pad.empty();
        return history.keep(done);
    }

    // ---- undo, saving

    public int undo() {
        if (history.count == 0) {
            return NOT_POSSIBLE;
        }
        history.takeBack(trust);
        return history.count;
    }

    public int save(int slot) {
        if (slot < 0 || slot >= SLOTS) {
            return BAD_VALUE;
        }
        slots[slot].become(trust);
        saved[slot] = true;
        return trust.day;
    }

    public int restore(int slot) {
        if (slot < 0 || slot >= SLOTS) {
            return BAD_VALUE;
        }
        if (!saved[slot]) {
            return NOT_POSSIBLE;
        }
        history.hold(trust);
        trust.become(slots[slot]);
        return history.keep(trust.day);
    }

    private int carryOutOrders() {
        pad.start();
        // An order takes a sign at least, so the pad's size is a bound for their number.
        for (int done = 0; done < PAD_SIZE; done++) {
            if (!pad.readOrder() || carryOutOrder() < 0) {
                return done;
            }
            if (!pad.skip(';')) {
                return done + 1;
            }
        }
        return PAD_SIZE;
    }

    private int carryOutOrder() {
        switch (pad.kind) {
            case 'b': return trust.orderToBuy(pad.holder, pad.number, pad.hour);
            case 'l': return trust.orderToLeave(pad.holder, pad.number, pad.hour);
            case 'q': return trust.changeQuote(pad.number);
            case 'i': return trust.takeIncome(pad.number);
            case 'd': return dayEnd.run(trust);
            default: return trust.payIncome();
        }
    }

    private static boolean isHolder(int holder) {
        return holder >= 0 && holder < HOLDERS;
    }

    /** What a holder has, and what it gave and got so far. */
    private static final class Holder {
        long oldUnits, newUnits, bought, paid, income, evening, lots;

        Holder() {
        }

        void become(Holder other) {
            oldUnits = other.oldUnits;
            newUnits = other.newUnits;
            bought = other.bought;
            paid = other.paid;
            income = other.income;
            evening = other.evening;
            lots = other.lots;
        }

        long units() {
            return oldUnits + newUnits;
        }
    }

    /** The orders of one kind that are not done, in the order of their days. */
    private static final class Orders {
        int count;
        final int[] holders, sizes, days;

        Orders() {
            holders = new int[MOST_ORDERS];
            sizes = new int[MOST_ORDERS];
            days = new int[MOST_ORDERS];
        }

        void become(Orders other) {
            count = other.count;
            for (int i = 0; i < count; i++) {
                write(i, other.holders[i], other.sizes[i], other.days[i]);
            }
        }

        boolean isFull() {
            return count >= MOST_ORDERS;
        }

        void add(int holder, int size, int day) {
            if (isFull()) {
                return;
            }
            int at = count;
            while (at > 0 && days[at - 1] > day) {
                write(at, holders[at - 1], sizes[at - 1], days[at - 1]);
                at--;
            }
            write(at, holder, size, day);
            count++;
        }

        private void write(int at, int holder, int size, int day) {
            holders[at] = holder;
            sizes[at] = size;
            days[at] = day;
        }

        /** How many orders have a day that is not later; they are the first ones. */
        int dueOn(int day) {
            int due = 0;
            while (due < count && days[due] <= day) {
                due++;
            }
            return due;
        }

        long sum(int from, int to) {
            long sum = 0;
            for (int i = from; i < to; i++) {
                sum += sizes[i];
            }
            return sum;
        }

        long sumOf(int holder) {
            long sum = 0;
            for (int i = 0; i < count; i++) {
                if (holders[i] == holder) {
                    sum += sizes[i];
                }
            }
            return sum;
        }

        void dropEmpty() {
            int kept = 0;
            for (int i = 0; i < count; i++) {
                if (sizes[i] > 0) {
                    write(kept, holders[i], sizes[i], days[i]);
                    kept++;
                }
            }
            count = kept;
        }
    }

    /** What is told about the latest day that ended. */
    private static final class LastDay {
        boolean ended;
        long price, made, left, stillWaiting, givenBack;
        int lotsSold, swung;

        LastDay() {
        }

        void become(LastDay other) {
            ended = other.ended;
            price = other.price;
            made = other.made;
            left = other.left;
            stillWaiting = other.stillWaiting;
            givenBack = other.givenBack;
            lotsSold = other.lotsSold;
            swung = other.swung;
        }

        void start(DayEnd dayEnd) {
            ended = true;
            price = dayEnd.price;
            swung = dayEnd.swung;
            stillWaiting = dayEnd.wanted;
            made = 0;
            left = 0;
            givenBack = 0;
            lotsSold = 0;
        }
    }

    /** Everything that undo and restore bring back. */
    private static final class Trust {
        long cash, incomePool, eveningPool;
        int lots, quote, day;
        final int[] settings;
        final Holder[] holders;
        final Orders buying, leaving;
        final LastDay last;

        Trust() {
            quote = FIRST_QUOTE;
            settings = new int[] {12, 50, 10, 100, 5};
            holders = new Holder[HOLDERS];
            for (int i = 0; i < HOLDERS; i++) {
                holders[i] = new Holder();
            }
            buying = new Orders();
            leaving = new Orders();
            last = new LastDay();
        }

        void become(Trust other) {
            cash = other.cash;
            incomePool = other.incomePool;
            eveningPool = other.eveningPool;
            lots = other.lots;
            quote = other.quote;
            day = other.day;
            for (int i = 0; i < SETTINGS; i++) {
                settings[i] = other.settings[i];
            }
            for (int i = 0; i < HOLDERS; i++) {
                holders[i].become(other.holders[i]);
            }
            buying.become(other.buying);
            leaving.become(other.leaving);
            last.become(other.last);
        }

        long value() {
            return cash + (long) lots * quote;
        }

        long units() {
            long units = 0;
            for (int i = 0; i < HOLDERS; i++) {
                units += holders[i].units();
            }
            return units;
        }

        long newUnits() {
            long units = 0;
            for (int i = 0; i < HOLDERS; i++) {
                units += holders[i].newUnits;
            }
            return units;
        }

        long middle() {
            long units = units();
            return units > 0 ? 1000 * value() / units : FIRST_MIDDLE;
        }

        long unitIncome() {
            long units = units();
            return units > 0 ? 1000 * incomePool / units : 0;
        }

        /** What a trade of one lot costs beside the quote. */
        long fee() {
            return ((long) quote * settings[COST] + 999) / 1000;
        }

        int changeSetting(int setting, int value) {
            if (setting < 0 || setting >= SETTINGS || value < 0 || value > GREATEST[setting]) {
                return BAD_VALUE;
            }
            int previous = settings[setting];
            settings[setting] = value;
            return previous;
        }

        int orderToBuy(int holder, int amount, int hour) {
            if (!isHolder(holder)) {
                return NO_SUCH;
            }
            if (amount < 1 || amount > MOST_MONEY || !isHour(hour)) {
                return BAD_VALUE;
            }
            if (buying.isFull()) {
                return TOO_MANY;
            }
            buying.add(holder, amount, dayOf(hour));
            return dayOf(hour);
        }

        int orderToLeave(int holder, int units, int hour) {
            if (!isHolder(holder)) {
                return NO_SUCH;
            }
            if (units < 1 || !isHour(hour)) {
                return BAD_VALUE;
            }
            if (leaving.isFull()) {
                return TOO_MANY;
            }
            if (units > freeUnits(holder)) {
                return NOT_POSSIBLE;
            }
            leaving.add(holder, units, dayOf(hour));
            return dayOf(hour);
        }

        int exitInKind(int holder, int units) {
            if (!isHolder(holder)) {
                return NO_SUCH;
            }
            if (units < 1) {
                return BAD_VALUE;
            }
            long all = units();
            if (units > freeUnits(holder) || all <= 0) {
                return NOT_POSSIBLE;
            }
            int lotsGot = (int) ((long) units * lots / all);
            long cashGot = units * cash / all;
            lots -= lotsGot;
            holders[holder].lots += lotsGot;
            takeUnits(holders[holder], units, cashGot, unitIncome());
            return lotsGot;
        }

        int changeQuote(int value) {
            if (value < 1 || value > MOST_QUOTE) {
                return BAD_VALUE;
            }
            int previous = quote;
            quote = value;
            return previous;
        }

        int tradeLots(int bought) {
            if (bought == 0 || bought < -MOST_LOTS || bought > MOST_LOTS) {
                return BAD_VALUE;
            }
            if (lots + bought > MOST_LOTS) {
                return TOO_MANY;
            }
            // Below 0 for lots that are sold: then it is what they bring.
            long cost = bought > 0 ? bought * (quote + fee()) : bought * (quote - fee());
            if (lots + bought < 0 || (bought > 0 && cost > cash - incomePool)) {
                return NOT_POSSIBLE;
            }
            lots += bought;
            cash -= cost;
            return lots;
        }

        int takeIncome(int amount) {
            if (amount < 1 || amount > MOST_MONEY) {
                return BAD_VALUE;
            }
            if (units() == 0) {
                return NOT_POSSIBLE;
            }
            cash += amount;
            incomePool += amount;
            return (int) incomePool;
        }

        int payIncome() {
            long ofUnit = unitIncome();
            long allNew = newUnits();
            long eveningOfUnit = allNew > 0 ? 1000 * eveningPool / allNew : 0;
            long all = 0;
            for (int i = 0; i < HOLDERS; i++) {
                Holder one = holders[i];
                long payment = one.units() * ofUnit / 1000;
                one.income += payment;
                one.evening += Math.min(one.newUnits * eveningOfUnit / 1000, payment);
                one.oldUnits += one.newUnits;
                one.newUnits = 0;
                all += payment;
            }
            cash -= all;
            incomePool -= all;
            eveningPool = 0;
            return (int) all;
        }

        void makeUnits(Holder one, long units, long amount, long ofUnit) {
            long income = units * ofUnit / 1000;
            cash += amount;
            one.bought += amount;
            one.newUnits += units;
            incomePool = Math.min(incomePool + income, cash);
            eveningPool += income;
        }

        void takeUnits(Holder one, long units, long amount, long ofUnit) {
            long allNew = newUnits();
            long goneOld = Math.min(units, one.oldUnits);
            long goneNew = units - goneOld;
            cash -= amount;
            one.paid += amount;
            one.oldUnits -= goneOld;
            one.newUnits -= goneNew;
            incomePool = Math.min(Math.max(incomePool - units * ofUnit / 1000, 0), cash);
            if (allNew > 0) {
                eveningPool -= goneNew * eveningPool / allNew;
            }
        }

        /** Sells as many lots as are needed for so much cash, or all; returns how many. */
        int sellFor(long amount) {
            if (cash >= amount) {
                return 0;
            }
            long brings = quote - fee();
            long sold = brings > 0 ? Math.min((amount - cash + brings - 1) / brings, lots) : lots;
            lots -= (int) sold;
            cash += sold * brings;
            return (int) sold;
        }

        private long freeUnits(int holder) {
            return holders[holder].units() - leaving.sumOf(holder);
        }

        private int dayOf(int hour) {
            return hour < settings[CUT] ? day : day + 1;
        }

        private static boolean isHour(int hour) {
            return hour >= 0 && hour <= LAST_HOUR;
        }
    }

    /** The end of a day; its rows are used again for each one, so that no call makes objects. */
    private static final class DayEnd {
        long middle, unitIncome, price, wanted, allowed;
        int swung;
        final long[] shares;

        DayEnd() {
            shares = new long[MOST_ORDERS];
        }

        long priceOf(Trust trust) {
            takePrice(trust);
            return price;
        }

        int run(Trust trust) {
            takePrice(trust);
            trust.last.start(this);
            shareOut(trust.leaving, trust.leaving.dueOn(trust.day));
            payLeavers(trust, trust.leaving.dueOn(trust.day));
            doBuyers(trust, trust.buying.dueOn(trust.day));
            trust.day++;
            return trust.day;
        }

        private void takePrice(Trust trust) {
            middle = trust.middle();
            unitIncome = trust.unitIncome();
            long units = trust.units();
            long comesIn = trust.buying.sum(0, trust.buying.dueOn(trust.day));
            wanted = trust.leaving.sum(0, trust.leaving.dueOn(trust.day));
            allowed = Math.min(wanted, trust.settings[GATE] * units / 1000);
            long flow = comesIn - allowed * middle / 1000;
            swung = units > 0 ? direction(1000 * flow, trust.settings[THRESHOLD] * trust.value()) : 0;
            price = (1000 + swung * trust.settings[SWING]) * middle / 1000;
        }

        private static int direction(long flow, long threshold) {
            if (flow > 0 && flow > threshold) {
                return 1;
            }
            return flow < 0 && flow < -threshold ? -1 : 0;
        }

        private void shareOut(Orders leaving, int due) {
            long left = allowed;
            int from = 0;
            while (from < due) {
                int to = from + 1;
                while (to < due && leaving.days[to] == leaving.days[from]) {
                    to++;
                }
                long ofDay = leaving.sum(from, to);
                long given = Math.min(ofDay, left);
                shareOutDay(leaving, from, to, ofDay, given);
                left -= given;
                from = to;
            }
        }

        private void shareOutDay(Orders leaving, int from, int to, long ofDay, long given) {
            long rest = given;
            for (int i = from; i < to; i++) {
                shares[i] = ofDay > 0 ? leaving.sizes[i] * given / ofDay : 0;
                rest -= shares[i];
            }
            for (int i = from; i < to && rest > 0; i++) {
                if (shares[i] < leaving.sizes[i]) {
                    shares[i]++;
                    rest--;
                }
            }
        }

        private void payLeavers(Trust trust, int due) {
            boolean paying = true;
            for (int i = 0; i < due && paying; i++) {
                if (shares[i] > 0) {
                    paying = payLeaver(trust, i);
                }
            }
            trust.leaving.dropEmpty();
        }

        private boolean payLeaver(Trust trust, int order) {
            long share = shares[order];
            long amount = share * price / 1000;
            trust.last.lotsSold += trust.sellFor(amount);
            if (trust.cash < amount) {
                return false;
            }
            trust.takeUnits(trust.holders[trust.leaving.holders[order]], share, amount, unitIncome);
            trust.leaving.sizes[order] -= (int) share;
            trust.last.left += share;
            trust.last.stillWaiting -= share;
            return true;
        }

        private void doBuyers(Trust trust, int due) {
            for (int i = 0; i < due; i++) {
                long amount = trust.buying.sizes[i];
                long made = price > 0 ? 1000 * amount / price : 0;
                if (made == 0 || trust.units() + made > MOST_UNITS) {
                    trust.last.givenBack += amount;
                } else {
                    trust.makeUnits(trust.holders[trust.buying.holders[i]], made, amount, unitIncome);
                    trust.last.made += made;
                }
                trust.buying.sizes[i] = 0;
            }
            trust.buying.dropEmpty();
        }
    }

    /** The text of orders, and its reading: where that stops is the fault, as it never goes beyond a wrong character. */
    private static final class Pad {
        int length;
        final char[] signs;
        int at, holder, number, hour;
        char kind;

        Pad() {
            signs = new char[PAD_SIZE];
        }

        /** How many characters the number holds; 0 if it is not a row of characters. */
        static int countCharacters(long characters) {
            long rest = characters;
            int count = 0;
            while (count < 8 && rest != 0) {
                long code = rest & 255;
                if (code < 33 || code > 126) {
                    return 0;
                }
                rest >>>= 8;
                count++;
            }
            return count;
        }

        void append(long characters, int count) {
            for (int i = count - 1; i >= 0 && length < PAD_SIZE; i--) {
                signs[length] = (char) (characters >>> 8 * i & 255);
                length++;
            }
        }

        /** The character there, 0 behind the end. */
        char signAt(int index) {
            return index >= 0 && index < length ? signs[index] : 0;
        }

        int empty() {
            int previous = length;
            length = 0;
            return previous;
        }

        void start() {
            at = 0;
        }

        int findFault() {
            start();
            for (int orders = 0; orders < PAD_SIZE; orders++) {
                if (!readOrder()) {
                    return at;
                }
                if (at >= length) {
                    return NONE;
                }
                if (!skip(';')) {
                    return at;
                }
            }
            return at;
        }

        boolean readOrder() {
            kind = signAt(at);
            switch (kind) {
                case 'b':
                case 'l':
                    at++;
                    return readDeal();
                case 'q':
                case 'i':
                    at++;
                    number = readNumber(MOST_MONEY);
                    return number >= 0;
                case 'd':
                case 'p':
                    at++;
                    return true;
                default:
                    return false;
            }
        }

        boolean skip(char sign) {
            if (signAt(at) != sign) {
                return false;
            }
            at++;
            return true;
        }

        private boolean readDeal() {
            holder = digitAt();
            if (!isHolder(holder)) {
                return false;
            }
            at++;
            if (!skip(':')) {
                return false;
            }
            number = readNumber(MOST_MONEY);
            if (number < 0) {
                return false;
            }
            hour = skip('@') ? readNumber(LAST_HOUR) : 0;
            return hour >= 0;
        }

        /** Returns the number, -1 if it is faulty. */
        private int readNumber(int greatest) {
            int value = digitAt();
            if (value < 0) {
                return -1;
            }
            at++;
            for (int digit = digitAt(); digit >= 0 && at < length; digit = digitAt()) {
                if (value == 0 || 10 * value + digit > greatest) {
                    return -1;
                }
                value = 10 * value + digit;
                at++;
            }
            return value;
        }

        /** The digit that comes next, -1 if none does. */
        private int digitAt() {
            char sign = signAt(at);
            return sign >= '0' && sign <= '9' ? sign - '0' : -1;
        }
    }

    /** The states before the latest changes, in a ring with one row more than it keeps, where the next one is held. */
    private static final class History {
        final Trust[] states;
        int first, count;

        History() {
            states = new Trust[HISTORY_SIZE + 1];
            for (int i = 0; i <= HISTORY_SIZE; i++) {
                states[i] = new Trust();
            }
        }

        void hold(Trust trust) {
            states[(first + count) % (HISTORY_SIZE + 1)].become(trust);
        }

        /** Keeps the state that is held, if the answer of the change is no error; returns that answer. */
        int keep(int answer) {
            if (answer >= 0 && count < HISTORY_SIZE) {
                count++;
            } else if (answer >= 0) {
                first = (first + 1) % (HISTORY_SIZE + 1);
            }
            return answer;
        }

        void takeBack(Trust trust) {
            if (count > 0) {
                count--;
                trust.become(states[(first + count) % (HISTORY_SIZE + 1)]);
            }
        }
    }
}
