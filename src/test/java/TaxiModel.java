import java.util.ArrayDeque;
import java.util.ArrayList;
import java.util.Deque;
import java.util.List;
import java.util.TreeMap;

/** The document once more, in plain collections and without care for room: what ModelTest compares with. */
final class TaxiModel {
    static final int UNKNOWN = -1, BAD_VALUE = -2, FULL = -3, NOT_POSSIBLE = -4, NONE = -5;
    private static final String PLACE = "(0|[1-9]|1[0-9]|20)";
    private static final String MINUTES = "[1-9][0-9]{0,2}";

    private static final class Cab implements Cloneable {
        int plate, doing = 5, left, wheel, fares, longs, coins, comebacks;
        boolean quick, latestIsShortOfRank;
        int[] fare = new int[2];

        Cab copy() {
            try {
                Cab cab = (Cab) clone();
                cab.fare = fare.clone();
                return cab;
            } catch (CloneNotSupportedException e) {
                throw new IllegalStateException(e);
            }
        }
    }

    private record Passenger(int to, int since, Object self) { }

    private static final class State {
        int clock, taken, gone, calls, paid, wheel;
        int[] settings = {2, 30, 7, 240, 45};
        TreeMap<Integer, Cab> cabs = new TreeMap<>();
        List<Integer> line = new ArrayList<>();
        List<Passenger> queue = new ArrayList<>();

        State copy() {
            State s = new State();
            s.clock = clock;
            s.taken = taken;
            s.gone = gone;
            s.calls = calls;
            s.paid = paid;
            s.wheel = wheel;
            s.settings = settings.clone();
            cabs.forEach((plate, cab) -> s.cabs.put(plate, cab.copy()));
            s.line.addAll(line);
            s.queue.addAll(queue);
            return s;
        }

        boolean free(Cab cab) {
            return cab.plate % 10 != clock / 1440 % 10 && cab.wheel < settings[3];
        }

        Cab rider(int to) {
            List<Cab> may = new ArrayList<>();
            for (int plate : line) {
                if (free(cabs.get(plate))) {
                    may.add(cabs.get(plate));
                }
            }
            if (may.isEmpty()) {
                return null;
            }
            if (Math.abs(to - 10) < settings[2]) {
                return may.get(0);
            }
            int fewest = may.stream().mapToInt(c -> c.longs).min().getAsInt();
            return may.stream().filter(c -> c.longs == fewest).findFirst().get();
        }

        /** On a line of minutes with the rank at 0. */
        int away(Cab cab, int place) {
            int cabAt = cab.doing == 0 ? 0 : cab.fare[1] > 10 ? cab.left : -cab.left;
            return Math.abs(cabAt - (place - 10) * settings[0]);
        }

        Cab taker(int from) {
            List<Cab> may = new ArrayList<>();
            for (int plate : line) {
                may.add(cabs.get(plate));
            }
            for (Cab cab : cabs.values()) {
                if (cab.doing == 3) {
                    may.add(cab);
                }
            }
            may.removeIf(cab -> !free(cab));
            may.sort((a, b) -> away(a, from) - away(b, from));
            return may.isEmpty() ? null : may.get(0);
        }

        void take(Cab cab, int from, int to, boolean rank) {
            line.remove((Integer) cab.plate);
            cab.quick = false;
            cab.fares++;
            boolean isLong = Math.abs(from - to) >= settings[2];
            cab.longs += isLong ? 1 : 0;
            cab.latestIsShortOfRank = rank && !isLong;
            cab.fare = new int[] {from, to};
        }

        void ride(Cab cab) {
            taken++;
            cab.doing = 2;
            cab.left = Math.abs(cab.fare[0] - cab.fare[1]) * settings[0];
        }

        void last(Cab cab) {
            cab.doing = 0;
            cab.left = 0;
            line.add(cab.plate);
        }

        void back(Cab cab) {
            if (cab.wheel >= settings[3]) {
                cab.doing = 4;
                cab.left = settings[4];
            } else if (cab.latestIsShortOfRank) {
                int at = 0;
                while (at < line.size() && cabs.get(line.get(at)).quick) {
                    at++;
                }
                line.add(at, cab.plate);
                cab.quick = true;
                cab.comebacks++;
                cab.doing = 0;
            } else {
                last(cab);
            }
        }

        void minute() {
            clock++;
            for (Cab cab : cabs.values()) {
                if (cab.doing == 0 || cab.doing == 5) {
                    continue;
                }
                if (cab.doing < 4) {
                    cab.wheel++;
                    wheel++;
                }
                if (--cab.left > 0) {
                    continue;
                }
                if (cab.doing == 1) {
                    ride(cab);
                } else if (cab.doing == 2) {
                    int coins = 30 + 12 * Math.abs(cab.fare[0] - cab.fare[1]);
                    cab.coins += coins;
                    paid += coins;
                    cab.doing = 3;
                    cab.left = Math.abs(cab.fare[1] - 10) * settings[0];
                    if (cab.left == 0) {
                        back(cab);
                    }
                } else if (cab.doing == 3) {
                    back(cab);
                } else {
                    cab.wheel = 0;
                    last(cab);
                }
            }
            int waited = queue.size();
            queue.removeIf(p -> clock - p.since >= settings[1]);
            gone += waited - queue.size();
            for (Passenger p : new ArrayList<>(queue)) {
                Cab cab = rider(p.to);
                if (cab != null) {
                    queue.remove(p);
                    take(cab, 10, p.to, true);
                    ride(cab);
                }
            }
        }

        int arrive(int to) {
            if (to < 0 || to > 20) {
                return UNKNOWN;
            }
            if (to == 10) {
                return BAD_VALUE;
            }
            if (queue.size() == 15) {
                return FULL;
            }
            queue.add(new Passenger(to, clock, new Object()));
            return queue.size();
        }

        int call(int from, int to) {
            if (from < 0 || from > 20 || to < 0 || to > 20) {
                return UNKNOWN;
            }
            if (from == to) {
                return BAD_VALUE;
            }
            Cab cab = taker(from);
            if (cab == null) {
                return NOT_POSSIBLE;
            }
            int minutes = away(cab, from);
            take(cab, from, to, false);
            calls++;
            cab.doing = 1;
            cab.left = minutes;
            if (minutes == 0) {
                ride(cab);
            }
            return cab.plate;
        }

        int pass(int minutes) {
            if (minutes < 1 || minutes > 999) {
                return BAD_VALUE;
            }
            if (clock + minutes > 99999) {
                return FULL;
            }
            int before = paid;
            for (int i = 0; i < minutes; i++) {
                minute();
            }
            return paid - before;
        }
    }

    private State s = new State();
    private final Deque<State> history = new ArrayDeque<>();
    private State snapshot;
    private String text = "";
    private int[] stop;

    private int act(State before, int answer) {
        if (answer < 0) {
            return answer;
        }
        history.addLast(before);
        if (history.size() > 4) {
            history.removeFirst();
        }
        return answer;
    }

    int come(int plate) {
        if (plate < 0 || plate > 999) {
            return BAD_VALUE;
        }
        Cab cab = s.cabs.get(plate);
        if (cab != null && cab.doing != 5) {
            return NOT_POSSIBLE;
        }
        if (cab == null && s.cabs.size() == 12) {
            return FULL;
        }
        State before = s.copy();
        if (cab == null) {
            cab = new Cab();
            cab.plate = plate;
            s.cabs.put(plate, cab);
        }
        cab.wheel = 0;
        s.last(cab);
        return act(before, s.line.size() - 1);
    }

    int goHome(int plate) {
        Cab cab = s.cabs.get(plate);
        if (cab == null) {
            return UNKNOWN;
        }
        if (cab.doing >= 1 && cab.doing <= 3) {
            return NOT_POSSIBLE;
        }
        if (cab.doing == 5) {
            return NONE;
        }
        State before = s.copy();
        s.line.remove((Integer) plate);
        cab.quick = false;
        cab.doing = 5;
        cab.left = 0;
        return act(before, s.line.size());
    }

    int set(int which, int value) {
        int[][] ranges = {{1, 9}, {1, 240}, {1, 20}, {30, 999}, {1, 240}};
        if (which < 0 || which > 4) {
            return UNKNOWN;
        }
        if (value < ranges[which][0] || value > ranges[which][1]) {
            return BAD_VALUE;
        }
        if (s.settings[which] == value) {
            return NONE;
        }
        State before = s.copy();
        s.settings[which] = value;
        return act(before, before.settings[which]);
    }

    int arrive(int to) {
        State before = s.copy();
        return act(before, s.arrive(to));
    }

    int call(int from, int to) {
        State before = s.copy();
        return act(before, s.call(from, to));
    }

    int pass(int minutes) {
        State before = s.copy();
        return act(before, s.pass(minutes));
    }

    int type(char character) {
        if (text.length() == 60) {
            return FULL;
        }
        text += character;
        return text.length();
    }

    int clearText() {
        int length = text.length();
        text = "";
        return length;
    }

    /** Whether an order may be so, though the next character, or the end, may be forbidden. */
    private static boolean mayBegin(String order) {
        return order.matches("(w" + PLACE + "?)?") || order.matches("c(" + PLACE + "(>" + PLACE + "?)?)?")
            || order.matches("[.](" + MINUTES + ")?");
    }

    private static boolean isOrder(String order) {
        if (order.matches("c" + PLACE + ">" + PLACE)) {
            String[] places = order.substring(1).split(">");
            return !places[0].equals(places[1]);
        }
        return order.matches("w" + PLACE) && !order.equals("w10") || order.matches("[.]" + MINUTES);
    }

    private static boolean mayBeginText(String prefix) {
        String[] orders = prefix.split(";", -1);
        for (int i = 0; i < orders.length - 1; i++) {
            if (!isOrder(orders[i])) {
                return false;
            }
        }
        return mayBegin(orders[orders.length - 1]);
    }

    private int fault() {
        for (int i = 0; i < text.length(); i++) {
            if (!mayBeginText(text.substring(0, i + 1))) {
                return i;
            }
        }
        String[] orders = text.split(";", -1);
        return isOrder(orders[orders.length - 1]) ? -1 : text.length();
    }

    int perform() {
        int fault = fault();
        if (fault >= 0) {
            return -100 - fault;
        }
        State before = s.copy();
        String[] orders = text.split(";");
        for (int i = 0; i < orders.length; i++) {
            String[] numbers = orders[i].substring(1).split(">");
            int first = Integer.parseInt(numbers[0]);
            int answer = switch (orders[i].charAt(0)) {
                case 'w' -> s.arrive(first);
                case 'c' -> s.call(first, Integer.parseInt(numbers[1]));
                default -> s.pass(first);
            };
            if (answer < 0) {
                s = before;
                stop = new int[] {i, answer};
                return NOT_POSSIBLE;
            }
        }
        return act(before, orders.length);
    }

    int stopped(int what) {
        return what < 0 || what > 1 ? BAD_VALUE : stop == null ? NONE : stop[what];
    }

    int undo() {
        if (history.isEmpty()) {
            return NONE;
        }
        s = history.removeLast();
        return history.size();
    }

    int keep() {
        snapshot = s.copy();
        return s.clock;
    }

    int restore() {
        if (snapshot == null) {
            return NONE;
        }
        State before = s;
        s = snapshot.copy();
        return act(before, s.clock);
    }

    int taxi(int plate, int what) {
        Cab cab = s.cabs.get(plate);
        if (cab == null) {
            return UNKNOWN;
        }
        int at = s.line.indexOf(plate);
        int[] all = {cab.doing, at < 0 ? NONE : at, cab.left, cab.wheel, cab.fares, cab.longs, cab.coins,
            cab.comebacks, cab.quick ? 1 : 0, s.free(cab) ? 1 : 0};
        return what < 0 || what >= all.length ? BAD_VALUE : all[what];
    }

    int line(int rank) {
        return rank < 0 ? BAD_VALUE : rank >= s.line.size() ? NONE : s.line.get(rank);
    }

    int plate(int rank) {
        return rank < 0 ? BAD_VALUE : rank >= s.cabs.size() ? NONE : new ArrayList<>(s.cabs.keySet()).get(rank);
    }

    int waiting(int rank, int what) {
        if (rank < 0 || what < 0 || what > 1) {
            return BAD_VALUE;
        }
        if (rank >= s.queue.size()) {
            return NONE;
        }
        Passenger p = s.queue.get(rank);
        return what == 0 ? p.to : s.clock - p.since;
    }

    int rides(int to) {
        if (to < 0 || to > 20) {
            return UNKNOWN;
        }
        if (to == 10) {
            return BAD_VALUE;
        }
        Cab cab = s.rider(to);
        return cab == null ? NONE : cab.plate;
    }

    int ifCalled(int from, int to, int what) {
        if (from < 0 || from > 20 || to < 0 || to > 20) {
            return UNKNOWN;
        }
        if (from == to || what < 0 || what > 2) {
            return BAD_VALUE;
        }
        Cab cab = s.taker(from);
        if (cab == null) {
            return NOT_POSSIBLE;
        }
        return new int[] {cab.plate, s.away(cab, from), 30 + 12 * Math.abs(from - to)}[what];
    }

    int reason(int plate, int to) {
        Cab cab = s.cabs.get(plate);
        if (cab == null || to < 0 || to > 20) {
            return UNKNOWN;
        }
        if (to == 10) {
            return BAD_VALUE;
        }
        if (cab.doing != 0) {
            return 1;
        }
        if (plate % 10 == s.clock / 1440 % 10) {
            return 2;
        }
        if (cab.wheel >= s.settings[3]) {
            return 3;
        }
        return s.rider(to) == cab ? 0 : 4;
    }

    int ridesIn(int rank) {
        if (rank < 0 || rank >= s.queue.size()) {
            return UNKNOWN;
        }
        State trial = s.copy();
        Passenger p = trial.queue.get(rank);
        for (int minutes = 1; minutes <= 240; minutes++) {
            int gone = trial.gone;
            trial.minute();
            if (!trial.queue.contains(p)) {
                // those who leave in a minute are the ones that have waited the longest
                return trial.clock - p.since >= trial.settings[1] && trial.gone > gone ? NONE : minutes;
            }
        }
        return NONE;
    }

    int inLineIn(int plate) {
        if (!s.cabs.containsKey(plate)) {
            return UNKNOWN;
        }
        State trial = s.copy();
        for (int minutes = 0; minutes <= 1000; minutes++) {
            if (trial.line.contains(plate)) {
                return minutes;
            }
            trial.minute();
        }
        return NONE;
    }

    int shares(int what) {
        if (what < 0 || what > 2) {
            return BAD_VALUE;
        }
        if (s.cabs.isEmpty()) {
            return NONE;
        }
        List<Cab> cabs = new ArrayList<>(s.cabs.values());
        cabs.sort((a, b) -> b.coins - a.coins);
        Cab most = cabs.get(0);
        cabs = new ArrayList<>(s.cabs.values());
        cabs.sort((a, b) -> a.coins - b.coins);
        Cab fewest = cabs.get(0);
        return new int[] {most.coins - fewest.coins, most.plate, fewest.plate}[what];
    }

    int count(int what) {
        int[] all = {s.clock, s.clock / 1440, s.cabs.size(), s.line.size(), s.queue.size(), s.taken, s.gone,
            s.calls, s.paid, s.wheel, s.settings[0], s.settings[1], s.settings[2], s.settings[3], s.settings[4],
            history.size(), text.length()};
        return what < 0 || what >= all.length ? BAD_VALUE : all[what];
    }
}
