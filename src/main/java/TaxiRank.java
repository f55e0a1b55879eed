/**
 * A taxi rank with turns, long fares and quick comebacks, driven by calls and by orders in a text.
 * The numbered promises of the document say what each method answers.
 */
public final class TaxiRank {
    /** There is no such taxi, place or setting. */
    public static final int UNKNOWN = -1;
    /** Another argument is out of range. */
    public static final int BAD_VALUE = -2;
    /** There is no more room. */
    public static final int FULL = -3;
    /** This is not possible. */
    public static final int NOT_POSSIBLE = -4;
    /** There is no such thing; not an error. */
    public static final int NONE = -5;

    private static final int TEXT_ROOM = 60;
    private static final int FAULT_BASE = -100;
    private static final int FIRST_SETTING_COUNTED = 10;

    private final Town town;
    /** The state before an act, or one in which minutes are only tried. */
    private final Town spare;
    private final Town snapshot;
    private boolean hasSnapshot;
    private final History history;
    private final char[] text;
    private int textLength;
    private final Orders orders;
    private int stoppedOrder;
    /** 0 as long as nothing was stopped, for no error is 0. */
    private int stoppedError;

    /** Creates a rank without taxis, at the clock 0. */
    public TaxiRank() {
        town = new Town();
        spare = new Town();
        snapshot = new Town();
        history = new History();
        text = new char[TEXT_ROOM];
        orders = new Orders();
    }

    // ---- taxis

    /** A taxi comes from home, or for the first time; returns its place in the line. */
    public int come(int plate) {
        spare.copyFrom(town);
        return recorded(town.welcome(plate));
    }

    /** A taxi goes home; returns how many are in the line then. */
    public int goHome(int plate) {
        spare.copyFrom(town);
        return recorded(town.sendHome(plate));
    }

    /** Sets a setting; returns the previous value. */
    public int set(int which, int value) {
        spare.copyFrom(town);
        return recorded(town.change(which, value));
    }

    // ---- passengers, calls, minutes

    /** A passenger comes to the rank; returns how many wait then. */
    public int arrive(int to) {
        spare.copyFrom(town);
        return recorded(town.letJoin(to));
    }

    /** A call comes and is taken at once; returns the plate of the taxi. */
    public int call(int from, int to) {
        spare.copyFrom(town);
        return recorded(town.takeCall(from, to));
    }

    /** Lets minutes pass; returns the fares that are paid in them. */
    public int pass(int minutes) {
        spare.copyFrom(town);
        return recorded(town.letPass(minutes));
    }

    // ---- texts

    /** Types a character behind the text; returns the length then. */
    public int type(char character) {
        if (textLength >= text.length) {
            return FULL;
        }
        text[textLength] = character;
        textLength++;
        return textLength;
    }

    /** Empties the text; returns the length that it had. */
    public int clearText() {
        int length = textLength;
        textLength = 0;
        return length;
    }

    /** Carries out all orders of the text, or none; returns how many there are. */
    public int perform() {
        int fault = orders.read(text, textLength);
        if (fault != Orders.NO_FAULT) {
            return FAULT_BASE - fault;
        }
        spare.copyFrom(town);
        for (int order = 0; order < orders.amount; order++) {
            int first = orders.firsts[order];
            int answer;
            if (orders.signs[order] == 'w') {
                answer = town.letJoin(first);
            } else if (orders.signs[order] == 'c') {
                answer = town.takeCall(first, orders.seconds[order]);
            } else {
                answer = town.letPass(first);
            }
            if (answer < 0) {
                town.copyFrom(spare);
                stoppedOrder = order;
                stoppedError = answer;
                return NOT_POSSIBLE;
            }
        }
        return recorded(orders.amount);
    }

    /** Tells of the latest stop of perform(): the order (0) or the error (1). */
    public int stopped(int what) {
        if (what < 0 || what > 1) {
            return BAD_VALUE;
        }
        if (stoppedError == 0) {
            return NONE;
        }
        return what == 0 ? stoppedOrder : stoppedError;
    }

    // ---- history

    /** Removes and restores the latest state of the history; returns how many are left. */
    public int undo() {
        if (history.amount == 0) {
            return NONE;
        }
        history.takeLatest(town);
        return history.amount;
    }

    /** Takes a snapshot of the state; returns the clock. */
    public int keep() {
        snapshot.copyFrom(town);
        hasSnapshot = true;
        return town.clock;
    }

    /** Restores the state of the snapshot, which stays; returns the clock then. */
    public int restore() {
        if (!hasSnapshot) {
            return NONE;
        }
        spare.copyFrom(town);
        town.copyFrom(snapshot);
        return recorded(town.clock);
    }

    // ---- what is told

    /** Tells of one taxi. */
    public int taxi(int plate, int what) {
        Taxi asked = town.find(plate);
        if (asked == null) {
            return UNKNOWN;
        }
        switch (what) {
            case 0: return asked.doing;
            case 1: return town.placeOf(asked);
            case 2: return asked.left;
            case 3: return asked.atWheel;
            case 4: return asked.fares;
            case 5: return asked.longFares;
            case 6: return asked.coins;
            case 7: return asked.quickReturns;
            case 8: return asked.quick ? 1 : 0;
            case 9: return town.mayTakeFare(asked) ? 1 : 0;
            default: return BAD_VALUE;
        }
    }

    /** Tells the plate at a place in the line. */
    public int line(int rank) {
        if (rank < 0) {
            return BAD_VALUE;
        }
        return rank < town.lineLength ? town.inLine[rank] : NONE;
    }

    /** Tells the plates of all taxis, rising. */
    public int plate(int rank) {
        if (rank < 0) {
            return BAD_VALUE;
        }
        return rank < town.taxiCount ? town.taxis[rank].plate : NONE;
    }

    /** Tells the place (0) or the minutes so far (1) of a passenger who waits. */
    public int waiting(int rank, int what) {
        if (rank < 0 || what < 0 || what > 1) {
            return BAD_VALUE;
        }
        if (rank >= town.queue.length) {
            return NONE;
        }
        return what == 0 ? town.queue.wants[rank] : town.clock - town.queue.came[rank];
    }

    /** Tells the plate of the taxi with which a passenger of the rank would ride now. */
    public int rides(int to) {
        if (!Town.isPlace(to)) {
            return UNKNOWN;
        }
        if (to == Town.RANK) {
            return BAD_VALUE;
        }
        Taxi taxi = town.taxiForRide(to);
        return taxi == null ? NONE : taxi.plate;
    }

    /** Tells the taxi (0) that would take a call now, its minutes to the caller (1), or the fare (2). */
    public int ifCalled(int from, int to, int what) {
        if (!Town.isPlace(from) || !Town.isPlace(to)) {
            return UNKNOWN;
        }
        if (from == to || what < 0 || what > 2) {
            return BAD_VALUE;
        }
        Taxi taxi = town.taxiForCall(from);
        if (taxi == null) {
            return NOT_POSSIBLE;
        }
        switch (what) {
            case 0: return taxi.plate;
            case 1: return town.minutesTo(taxi, from);
            default: return Town.fareFor(from, to);
        }
    }

    /** Tells why a taxi would not ride with a passenger of the rank now; 0 if it would. */
    public int reason(int plate, int to) {
        Taxi asked = town.find(plate);
        if (asked == null || !Town.isPlace(to)) {
            return UNKNOWN;
        }
        if (to == Town.RANK) {
            return BAD_VALUE;
        }
        if (asked.doing != Taxi.IN_LINE) {
            return 1;
        }
        if (town.staysHomeToday(asked)) {
            return 2;
        }
        if (town.wasLongAtWheel(asked)) {
            return 3;
        }
        return town.taxiForRide(to) == asked ? 0 : 4;
    }

    /** Tells in how many minutes a passenger who waits rides off. */
    public int ridesIn(int rank) {
        if (rank < 0 || rank >= town.queue.length) {
            return UNKNOWN;
        }
        spare.copyFrom(town);
        return spare.minutesUntilRide(rank);
    }

    /** Tells in how many minutes a taxi is in the line. */
    public int inLineIn(int plate) {
        spare.copyFrom(town);
        Taxi asked = spare.find(plate);
        return asked == null ? UNKNOWN : spare.minutesUntilInLine(asked);
    }

    /** Tells how unlike the shares are (0), and the plates with the most (1) and the fewest (2) coins. */
    public int shares(int what) {
        if (what < 0 || what > 2) {
            return BAD_VALUE;
        }
        if (town.taxiCount == 0) {
            return NONE;
        }
        Taxi richest = town.taxis[0];
        Taxi poorest = town.taxis[0];
        for (int i = 1; i < town.taxiCount; i++) {
            Taxi next = town.taxis[i];
            richest = next.coins > richest.coins ? next : richest;
            poorest = next.coins < poorest.coins ? next : poorest;
        }
        switch (what) {
            case 0: return richest.coins - poorest.coins;
            case 1: return richest.plate;
            default: return poorest.plate;
        }
    }

    /** Tells a number of the whole: the clock, sums, settings, lengths. */
    public int count(int what) {
        int setting = what - FIRST_SETTING_COUNTED;
        if (Town.isSetting(setting)) {
            return town.settings[setting];
        }
        switch (what) {
            case 0: return town.clock;
            case 1: return town.clock / Town.DAY;
            case 2: return town.taxiCount;
            case 3: return town.lineLength;
            case 4: return town.queue.length;
            case 5: return town.taken;
            case 6: return town.gone;
            case 7: return town.calls;
            case 8: return town.paid;
            case 9: return town.minutesAtWheel;
            case 15: return history.amount;
            case 16: return textLength;
            default: return BAD_VALUE;
        }
    }

    /** Every act that succeeds answers 0 or more; only then is the state before it recorded. */
    private int recorded(int answer) {
        if (answer >= 0) {
            history.store(spare);
        }
        return answer;
    }

    /** One taxi: what it does, and its accounts. */
    private static final class Taxi {
        static final int IN_LINE = 0;
        static final int TO_CALLER = 1;
        static final int WITH_PASSENGER = 2;
        static final int ON_WAY_BACK = 3;
        static final int AT_REST = 4;
        static final int AT_HOME = 5;

        int plate;
        int doing;
        int left;
        int atWheel;
        int fares;
        int longFares;
        int coins;
        int quickReturns;
        /** Whether it stands in the line as one that came back quickly. */
        boolean quick;
        /** Judged as the fare is taken, for the setting may change while the taxi is off. */
        boolean shortOfRank;
        int from;
        /** Kept behind the ride, too: it tells the side from which the taxi comes back. */
        int to;

        void copyFrom(Taxi other) {
            plate = other.plate;
            doing = other.doing;
            left = other.left;
            atWheel = other.atWheel;
            fares = other.fares;
            longFares = other.longFares;
            coins = other.coins;
            quickReturns = other.quickReturns;
            quick = other.quick;
            shortOfRank = other.shortOfRank;
            from = other.from;
            to = other.to;
        }

        boolean isAtWheel() {
            return doing == TO_CALLER || doing == WITH_PASSENGER || doing == ON_WAY_BACK;
        }

        void begin(int task, int minutes) {
            doing = task;
            left = minutes;
        }
    }

    /** The passengers who wait at the rank, in the order in which they came. */
    private static final class Queue {
        static final int ROOM = 15;

        int length;
        final int[] wants;
        /** The clock as each one came. */
        final int[] came;
        /** Tells passengers apart who are alike in all else. */
        final int[] numbers;
        int nextNumber;

        Queue() {
            wants = new int[ROOM];
            came = new int[ROOM];
            numbers = new int[ROOM];
        }

        void copyFrom(Queue other) {
            length = other.length;
            nextNumber = other.nextNumber;
            System.arraycopy(other.wants, 0, wants, 0, ROOM);
            System.arraycopy(other.came, 0, came, 0, ROOM);
            System.arraycopy(other.numbers, 0, numbers, 0, ROOM);
        }

        void join(int to, int clock) {
            if (length >= ROOM) {
                return;
            }
            wants[length] = to;
            came[length] = clock;
            numbers[length] = nextNumber;
            nextNumber++;
            length++;
        }

        void removeAt(int rank) {
            if (rank < 0 || rank >= length) {
                return;
            }
            for (int i = rank; i < length - 1; i++) {
                wants[i] = wants[i + 1];
                came[i] = came[i + 1];
                numbers[i] = numbers[i + 1];
            }
            length--;
        }

        boolean holds(int number) {
            for (int i = 0; i < length; i++) {
                if (numbers[i] == number) {
                    return true;
                }
            }
            return false;
        }
    }

    /** A whole state: what undo() and restore() bring back. A method that answers less than 0 changes nothing. */
    private static final class Town {
        static final int RANK = 10;
        static final int LAST_PLACE = 20;
        static final int DAY = 1440;
        static final int MOST_MINUTES = 999;

        private static final int MOST_TAXIS = 12;
        private static final int LAST_PLATE = 999;
        private static final int LAST_MINUTE = 99999;
        private static final int LONGEST_WAIT = 240;
        private static final int LONGEST_LOOK = 1000;
        private static final int BASE_FARE = 30;
        private static final int FARE_A_PLACE = 12;

        private static final int PACE = 0;
        private static final int PATIENCE = 1;
        private static final int LONG_WAY = 2;
        private static final int LONG_WORK = 3;
        private static final int REST = 4;
        private static final int[] LOWEST = {1, 1, 1, 30, 1};
        private static final int[] HIGHEST = {9, 240, 20, 999, 240};
        private static final int[] AT_FIRST = {2, 30, 7, 240, 45};

        /** By rising plates; those behind taxiCount are not in use. */
        final Taxi[] taxis;
        int taxiCount;
        /** The plates in the line, the first one at 0. */
        final int[] inLine;
        int lineLength;
        final Queue queue;
        final int[] settings;
        int clock;
        int taken;
        int gone;
        int calls;
        int paid;
        int minutesAtWheel;

        Town() {
            taxis = new Taxi[MOST_TAXIS];
            for (int i = 0; i < MOST_TAXIS; i++) {
                taxis[i] = new Taxi();
            }
            inLine = new int[MOST_TAXIS];
            queue = new Queue();
            settings = new int[AT_FIRST.length];
            System.arraycopy(AT_FIRST, 0, settings, 0, AT_FIRST.length);
        }

        void copyFrom(Town other) {
            for (int i = 0; i < MOST_TAXIS; i++) {
                taxis[i].copyFrom(other.taxis[i]);
            }
            taxiCount = other.taxiCount;
            System.arraycopy(other.inLine, 0, inLine, 0, MOST_TAXIS);
            lineLength = other.lineLength;
            queue.copyFrom(other.queue);
            System.arraycopy(other.settings, 0, settings, 0, AT_FIRST.length);
            clock = other.clock;
            taken = other.taken;
            gone = other.gone;
            calls = other.calls;
            paid = other.paid;
            minutesAtWheel = other.minutesAtWheel;
        }

        static boolean isPlace(int place) {
            return place >= 0 && place <= LAST_PLACE;
        }

        static boolean isSetting(int which) {
            return which >= 0 && which < AT_FIRST.length;
        }

        static int fareFor(int from, int to) {
            return BASE_FARE + FARE_A_PLACE * Math.abs(to - from);
        }

        // ---- the acts

        int welcome(int plate) {
            if (plate < 0 || plate > LAST_PLATE) {
                return BAD_VALUE;
            }
            Taxi taxi = find(plate);
            if (taxi != null && taxi.doing != Taxi.AT_HOME) {
                return NOT_POSSIBLE;
            }
            if (taxi == null) {
                taxi = register(plate);
            }
            if (taxi == null) {
                return FULL;
            }
            taxi.atWheel = 0;
            standLast(taxi);
            return lineLength - 1;
        }

        int sendHome(int plate) {
            Taxi taxi = find(plate);
            if (taxi == null) {
                return UNKNOWN;
            }
            if (taxi.isAtWheel()) {
                return NOT_POSSIBLE;
            }
            if (taxi.doing == Taxi.AT_HOME) {
                return NONE;
            }
            leaveLine(taxi);
            taxi.begin(Taxi.AT_HOME, 0);
            return lineLength;
        }

        int change(int which, int value) {
            if (!isSetting(which)) {
                return UNKNOWN;
            }
            if (value < LOWEST[which] || value > HIGHEST[which]) {
                return BAD_VALUE;
            }
            int previous = settings[which];
            if (previous == value) {
                return NONE;
            }
            settings[which] = value;
            return previous;
        }

        int letJoin(int to) {
            if (!isPlace(to)) {
                return UNKNOWN;
            }
            if (to == RANK) {
                return BAD_VALUE;
            }
            if (queue.length >= Queue.ROOM) {
                return FULL;
            }
            queue.join(to, clock);
            return queue.length;
        }

        int takeCall(int from, int to) {
            if (!isPlace(from) || !isPlace(to)) {
                return UNKNOWN;
            }
            if (from == to) {
                return BAD_VALUE;
            }
            Taxi taxi = taxiForCall(from);
            if (taxi == null) {
                return NOT_POSSIBLE;
            }
            // before the fare is accepted, for that forgets from where the taxi comes back
            int minutes = minutesTo(taxi, from);
            acceptFare(taxi, from, to);
            calls++;
            if (minutes == 0) {
                startRide(taxi);
            } else {
                taxi.begin(Taxi.TO_CALLER, minutes);
            }
            return taxi.plate;
        }

        int letPass(int minutes) {
            if (minutes < 1 || minutes > MOST_MINUTES) {
                return BAD_VALUE;
            }
            if (clock + minutes > LAST_MINUTE) {
                return FULL;
            }
            int paidBefore = paid;
            for (int i = 0; i < minutes; i++) {
                minute();
            }
            return paid - paidBefore;
        }

        // ---- what is so now

        Taxi find(int plate) {
            for (int i = 0; i < taxiCount; i++) {
                if (taxis[i].plate == plate) {
                    return taxis[i];
                }
            }
            return null;
        }

        int placeOf(Taxi taxi) {
            for (int place = 0; place < lineLength; place++) {
                if (inLine[place] == taxi.plate) {
                    return place;
                }
            }
            return NONE;
        }

        boolean staysHomeToday(Taxi taxi) {
            return taxi.plate % 10 == clock / DAY % 10;
        }

        boolean wasLongAtWheel(Taxi taxi) {
            return taxi.atWheel >= settings[LONG_WORK];
        }

        boolean mayTakeFare(Taxi taxi) {
            return !staysHomeToday(taxi) && !wasLongAtWheel(taxi);
        }

        boolean isLong(int from, int to) {
            return Math.abs(to - from) >= settings[LONG_WAY];
        }

        /** The taxi with which a passenger of the rank rides now, or null. */
        Taxi taxiForRide(int to) {
            boolean isLongRide = isLong(RANK, to);
            Taxi best = null;
            for (int place = 0; place < lineLength; place++) {
                Taxi next = find(inLine[place]);
                if (next == null || !mayTakeFare(next)) {
                    continue;
                }
                if (best == null || isLongRide && next.longFares < best.longFares) {
                    best = next;
                }
            }
            return best;
        }

        /** The taxi that takes a call now, or null. */
        Taxi taxiForCall(int from) {
            Taxi best = null;
            for (int place = 0; place < lineLength; place++) {
                best = nearer(best, find(inLine[place]), from);
            }
            for (int i = 0; i < taxiCount; i++) {
                if (taxis[i].doing == Taxi.ON_WAY_BACK) {
                    best = nearer(best, taxis[i], from);
                }
            }
            return best;
        }

        private Taxi nearer(Taxi best, Taxi next, int from) {
            if (next == null || !mayTakeFare(next)) {
                return best;
            }
            return best == null || minutesTo(next, from) < minutesTo(best, from) ? next : best;
        }

        /** For a taxi in the line or on its way back. */
        int minutesTo(Taxi taxi, int place) {
            int away = 0;
            if (taxi.doing == Taxi.ON_WAY_BACK) {
                away = taxi.to < RANK ? -taxi.left : taxi.left;
            }
            return Math.abs((place - RANK) * settings[PACE] - away);
        }

        // ---- what will be, tried in this very state

        int minutesUntilRide(int rank) {
            if (rank < 0 || rank >= queue.length) {
                return NONE;
            }
            int number = queue.numbers[rank];
            int came = queue.came[rank];
            for (int minutes = 1; minutes <= LONGEST_WAIT; minutes++) {
                minute();
                if (!queue.holds(number)) {
                    // the impatient leave before anybody rides, so one who waited too long can't have ridden
                    return clock - came >= settings[PATIENCE] ? NONE : minutes;
                }
            }
            return NONE;
        }

        int minutesUntilInLine(Taxi taxi) {
            if (taxi.doing == Taxi.AT_HOME) {
                return NONE;
            }
            for (int minutes = 0; minutes <= LONGEST_LOOK; minutes++) {
                if (taxi.doing == Taxi.IN_LINE) {
                    return minutes;
                }
                minute();
            }
            return NONE;
        }

        // ---- a minute

        private void minute() {
            clock++;
            for (int i = 0; i < taxiCount; i++) {
                Taxi taxi = taxis[i];
                if (taxi.doing != Taxi.IN_LINE && taxi.doing != Taxi.AT_HOME) {
                    goOn(taxi);
                }
            }
            dismissImpatient();
            seatPassengers();
        }

        private void goOn(Taxi taxi) {
            if (taxi.isAtWheel()) {
                taxi.atWheel++;
                minutesAtWheel++;
            }
            taxi.left--;
            if (taxi.left > 0) {
                return;
            }
            switch (taxi.doing) {
                case Taxi.TO_CALLER:
                    startRide(taxi);
                    break;
                case Taxi.WITH_PASSENGER:
                    payFare(taxi);
                    if (taxi.to == RANK) {
                        comeBack(taxi);
                    } else {
                        taxi.begin(Taxi.ON_WAY_BACK, Math.abs(taxi.to - RANK) * settings[PACE]);
                    }
                    break;
                case Taxi.ON_WAY_BACK:
                    comeBack(taxi);
                    break;
                default:
                    taxi.atWheel = 0;
                    standLast(taxi);
                    break;
            }
        }

        private void dismissImpatient() {
            for (int rank = queue.length - 1; rank >= 0; rank--) {
                if (clock - queue.came[rank] >= settings[PATIENCE]) {
                    queue.removeAt(rank);
                    gone++;
                }
            }
        }

        private void seatPassengers() {
            int rank = 0;
            for (int asked = queue.length; asked > 0 && rank < queue.length; asked--) {
                int to = queue.wants[rank];
                Taxi taxi = taxiForRide(to);
                if (taxi == null) {
                    rank++;
                } else {
                    acceptFare(taxi, RANK, to);
                    taxi.shortOfRank = !isLong(RANK, to);
                    startRide(taxi);
                    queue.removeAt(rank);
                }
            }
        }

        // ---- what a taxi does next

        private void acceptFare(Taxi taxi, int from, int to) {
            leaveLine(taxi);
            taxi.from = from;
            taxi.to = to;
            // true only of a passenger who waits at the rank, not of a caller there
            taxi.shortOfRank = false;
            taxi.fares++;
            if (isLong(from, to)) {
                taxi.longFares++;
            }
        }

        private void startRide(Taxi taxi) {
            taken++;
            taxi.begin(Taxi.WITH_PASSENGER, Math.abs(taxi.to - taxi.from) * settings[PACE]);
        }

        private void payFare(Taxi taxi) {
            int fare = fareFor(taxi.from, taxi.to);
            taxi.coins += fare;
            paid += fare;
        }

        private void comeBack(Taxi taxi) {
            if (wasLongAtWheel(taxi)) {
                taxi.begin(Taxi.AT_REST, settings[REST]);
            } else if (taxi.shortOfRank) {
                standQuickly(taxi);
            } else {
                standLast(taxi);
            }
        }

        // ---- the line

        private void standLast(Taxi taxi) {
            standAt(taxi, lineLength, false);
        }

        private void standQuickly(Taxi taxi) {
            int place = 0;
            for (int i = 0; i < lineLength; i++) {
                Taxi ahead = find(inLine[i]);
                if (ahead == null || !ahead.quick) {
                    break;
                }
                place++;
            }
            standAt(taxi, place, true);
            taxi.quickReturns++;
        }

        private void standAt(Taxi taxi, int place, boolean quick) {
            if (lineLength >= MOST_TAXIS || place < 0 || place > lineLength) {
                return;
            }
            for (int i = lineLength; i > place; i--) {
                inLine[i] = inLine[i - 1];
            }
            inLine[place] = taxi.plate;
            lineLength++;
            taxi.doing = Taxi.IN_LINE;
            taxi.left = 0;
            taxi.quick = quick;
        }

        private void leaveLine(Taxi taxi) {
            int place = placeOf(taxi);
            if (place < 0) {
                return;
            }
            lineLength--;
            for (int i = place; i < lineLength; i++) {
                inLine[i] = inLine[i + 1];
            }
            taxi.quick = false;
        }

        /** For a plate that is not there yet; null if there is no room. A taxi not in use is as it was made. */
        private Taxi register(int plate) {
            if (taxiCount >= MOST_TAXIS) {
                return null;
            }
            Taxi unused = taxis[taxiCount];
            int at = taxiCount;
            for (int i = taxiCount - 1; i >= 0 && taxis[i].plate > plate; i--) {
                taxis[i + 1] = taxis[i];
                at = i;
            }
            taxis[at] = unused;
            taxiCount++;
            unused.plate = plate;
            return unused;
        }
    }

    /** The states that undo() brings back, the oldest one at 0. */
    private static final class History {
        private static final int ROOM = 4;

        private final Town[] states;
        int amount;

        History() {
            states = new Town[ROOM];
            for (int i = 0; i < ROOM; i++) {
                states[i] = new Town();
            }
        }

        void store(Town state) {
            if (amount == ROOM) {
                dropOldest();
            }
            states[amount].copyFrom(state);
            amount++;
        }

        void takeLatest(Town into) {
            if (amount == 0) {
                return;
            }
            amount--;
            into.copyFrom(states[amount]);
        }

        private void dropOldest() {
            Town oldest = states[0];
            for (int i = 1; i < ROOM; i++) {
                states[i - 1] = states[i];
            }
            states[ROOM - 1] = oldest;
            amount--;
        }
    }

    /** The orders of a text, and where its fault is. */
    private static final class Orders {
        static final int NO_FAULT = -1;

        /** So many orders of two characters, with ";" between them, fill the text. */
        private static final int MOST_ORDERS = 20;
        private static final int MOST_DIGITS = 3;
        private static final int NO_NUMBER = -1;
        private static final char NO_CHARACTER = 0;

        int amount;
        final char[] signs;
        final int[] firsts;
        final int[] seconds;
        private char[] characters;
        private int length;
        /** The character that is looked at; where reading stops is the fault. */
        private int at;

        Orders() {
            signs = new char[MOST_ORDERS];
            firsts = new int[MOST_ORDERS];
            seconds = new int[MOST_ORDERS];
            characters = new char[0];
        }

        /** Answers the fault of the text, or NO_FAULT. */
        int read(char[] text, int textLength) {
            characters = text;
            length = textLength;
            amount = 0;
            at = 0;
            for (int order = 0; order < MOST_ORDERS; order++) {
                if (!readOrder()) {
                    return at;
                }
                if (at == length) {
                    return NO_FAULT;
                }
                if (here() != ';') {
                    return at;
                }
                at++;
            }
            // so many orders leave room for one more ";", but for nothing behind it
            return at;
        }

        private boolean readOrder() {
            char sign = here();
            if (sign != 'w' && sign != 'c' && sign != '.') {
                return false;
            }
            at++;
            int least = sign == '.' ? 1 : 0;
            int first = readNumber(least, sign == '.' ? Town.MOST_MINUTES : Town.LAST_PLACE);
            if (first == NO_NUMBER || sign == 'w' && first == Town.RANK) {
                return false;
            }
            int second = NO_NUMBER;
            if (sign == 'c') {
                if (here() != '>') {
                    return false;
                }
                at++;
                second = readNumber(0, Town.LAST_PLACE);
                if (second == NO_NUMBER || second == first) {
                    return false;
                }
            }
            note(sign, first, second);
            return true;
        }

        private int readNumber(int least, int most) {
            int value = digitHere();
            if (value == NO_NUMBER || value < least) {
                return NO_NUMBER;
            }
            at++;
            for (int digits = 1; digits <= MOST_DIGITS; digits++) {
                int digit = digitHere();
                if (digit == NO_NUMBER) {
                    return value;
                }
                int longer = 10 * value + digit;
                if (value == 0 || longer > most) {
                    return NO_NUMBER;
                }
                value = longer;
                at++;
            }
            return NO_NUMBER;
        }

        private int digitHere() {
            char character = here();
            return character >= '0' && character <= '9' ? character - '0' : NO_NUMBER;
        }

        /** Behind the end there is a character that is allowed nowhere. */
        private char here() {
            return at < length && at < characters.length ? characters[at] : NO_CHARACTER;
        }

        private void note(char sign, int first, int second) {
            if (amount >= MOST_ORDERS) {
                return;
            }
            signs[amount] = sign;
            firsts[amount] = first;
            seconds[amount] = second;
            amount++;
        }
    }
}
