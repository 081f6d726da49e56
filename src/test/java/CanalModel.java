import java.util.ArrayDeque;
import java.util.ArrayList;
import java.util.Arrays;
import java.util.Deque;
import java.util.List;
import java.util.regex.Matcher;
import java.util.regex.Pattern;

/** The document told a second time, in another manner: pieces one by one, states copied whole, texts by a pattern. */
final class CanalModel {
    private static final String WAY = "[0-5]>[0-5]@([1-5][0-9]|60|[1-9])";
    private static final String THING = "(b" + WAY + "|r[2-6]:" + WAY + "|x[0-4]|\\.[1-9][0-9]?)";
    private static final Pattern TRAFFIC = Pattern.compile(THING + "(;" + THING + ")*");

    /** A boat; each piece tells in which pound it is. */
    static final class Vessel {
        int[] pieces;
        int draught;
        int from;
        int goal;
        int passages;
        Integer arrivedAt;

        Vessel copy() {
            Vessel v = new Vessel();
            v.pieces = pieces.clone();
            v.draught = draught;
            v.from = from;
            v.goal = goal;
            v.passages = passages;
            v.arrivedAt = arrivedAt;
            return v;
        }

        int next() {
            return from + Integer.signum(goal - from);
        }

        int gate() {
            return goal > from ? from : from - 1;
        }

        boolean hasPieceIn(int pound) {
            return Arrays.stream(pieces).anyMatch(p -> p == pound);
        }
    }

    static final class State {
        int[] depth = {40, 40, 40, 40, 40, 40};
        boolean[] high = new boolean[5];
        int[] taken = new int[5];
        int[] passages = new int[5];
        int[] fillings = new int[5];
        int[] settings = {6, 2, 4};
        List<Vessel> vessels = new ArrayList<>();
        // Who waits, in the order of coming, over all locks.
        List<Integer> waiting = new ArrayList<>();
        int tick;
        int lost;
        int spring;

        State copy() {
            State s = new State();
            s.depth = depth.clone();
            s.high = high.clone();
            s.taken = taken.clone();
            s.passages = passages.clone();
            s.fillings = fillings.clone();
            s.settings = settings.clone();
            for (Vessel v : vessels) {
                s.vessels.add(v.copy());
            }
            s.waiting.addAll(waiting);
            s.tick = tick;
            s.lost = lost;
            s.spring = spring;
            return s;
        }

        List<Integer> queue(int lock, boolean above) {
            List<Integer> queue = new ArrayList<>();
            for (int number : waiting) {
                Vessel v = vessels.get(number);
                if (v.gate() == lock && (v.from == lock + 1) == above) {
                    queue.add(number);
                }
            }
            return queue;
        }

        boolean aground(Vessel v) {
            for (int pound = 0; pound < 6; pound++) {
                if ((v.hasPieceIn(pound) || pound == v.next()) && depth[pound] < v.draught) {
                    return true;
                }
            }
            return false;
        }

        boolean turn(int lock) {
            if (high[lock]) {
                depth[lock] += taken[lock];
                while (depth[lock] > 90) {
                    depth[lock]--;
                    lost++;
                }
                taken[lock] = 0;
            } else {
                if (depth[lock + 1] < settings[0]) {
                    return false;
                }
                depth[lock + 1] -= settings[0];
                taken[lock] = settings[0];
                fillings[lock]++;
            }
            high[lock] = !high[lock];
            return true;
        }

        void work(int lock) {
            List<Integer> open = queue(lock, high[lock]);
            List<Integer> other = queue(lock, !high[lock]);
            if (open.isEmpty()) {
                if (!other.isEmpty()) {
                    turn(lock);
                }
                return;
            }
            Vessel v = vessels.get(open.get(0));
            if (aground(v) || !turn(lock)) {
                return;
            }
            v.passages++;
            passages[lock]++;
            int room = settings[1];
            for (int i = 0; i < v.pieces.length && room > 0; i++) {
                if (v.pieces[i] == v.from) {
                    v.pieces[i] = v.next();
                    room--;
                }
            }
            if (!v.hasPieceIn(v.from)) {
                v.from = v.next();
                waiting.remove(open.get(0));
                if (v.from == v.goal) {
                    v.arrivedAt = tick;
                } else {
                    waiting.add(open.get(0));
                }
            }
        }

        void step() {
            for (int lock = 0; lock < 5; lock++) {
                work(lock);
            }
            for (int i = 0; i < settings[2]; i++) {
                spring++;
                int pound = 5;
                while (pound >= 0 && depth[pound] == 90) {
                    pound--;
                }
                if (pound < 0) {
                    lost++;
                } else {
                    depth[pound]++;
                }
            }
            tick++;
        }

        int arrived() {
            return (int) vessels.stream().filter(v -> v.arrivedAt != null).count();
        }

        int allPassages() {
            return Arrays.stream(passages).sum();
        }

        int agroundNow() {
            return (int) vessels.stream().filter(v -> v.arrivedAt == null && aground(v)).count();
        }

        int water() {
            return Arrays.stream(depth).sum() + Arrays.stream(taken).sum();
        }
    }

    private State now = new State();
    private State kept;
    private final Deque<State> history = new ArrayDeque<>();
    private final StringBuilder text = new StringBuilder();
    private int[] stop = {-5, -5};

    private static boolean in(int value, int low, int high) {
        return low <= value && value <= high;
    }

    private int act(State was, int answer) {
        if (answer >= 0) {
            history.addLast(was);
            if (history.size() > 4) {
                history.removeFirst();
            }
        }
        return answer;
    }

    int boat(int pieces, int from, int to, int draught) {
        State was = now.copy();
        return act(was, come(pieces, from, to, draught));
    }

    private int come(int pieces, int from, int to, int draught) {
        if (!in(from, 0, 5) || !in(to, 0, 5)) {
            return -1;
        }
        if (!in(pieces, 1, 6) || !in(draught, 1, 60) || from == to) {
            return -2;
        }
        if (now.vessels.size() == 16) {
            return -3;
        }
        Vessel v = new Vessel();
        v.pieces = new int[pieces];
        Arrays.fill(v.pieces, from);
        v.draught = draught;
        v.from = from;
        v.goal = to;
        now.vessels.add(v);
        now.waiting.add(now.vessels.size() - 1);
        return now.vessels.size() - 1;
    }

    int load(int boat, int draught) {
        if (!in(boat, 0, now.vessels.size() - 1)) {
            return -1;
        }
        if (!in(draught, 1, 60)) {
            return -2;
        }
        Vessel v = now.vessels.get(boat);
        if (v.arrivedAt != null) {
            return -4;
        }
        if (v.draught == draught) {
            return -5;
        }
        State was = now.copy();
        v.draught = draught;
        return act(was, was.vessels.get(boat).draught);
    }

    int turnLock(int lock) {
        State was = now.copy();
        return act(was, turnNow(lock));
    }

    private int turnNow(int lock) {
        if (!in(lock, 0, 4)) {
            return -1;
        }
        if (!now.turn(lock)) {
            return -4;
        }
        return now.high[lock] ? 1 : 0;
    }

    int setDepth(int pound, int depth) {
        if (!in(pound, 0, 5)) {
            return -1;
        }
        if (!in(depth, 0, 90)) {
            return -2;
        }
        if (now.depth[pound] == depth) {
            return -5;
        }
        State was = now.copy();
        now.depth[pound] = depth;
        return act(was, was.depth[pound]);
    }

    int set(int which, int value) {
        if (!in(which, 0, 2)) {
            return -1;
        }
        if (!in(value, which == 2 ? 0 : 1, which == 1 ? 6 : 20)) {
            return -2;
        }
        if (now.settings[which] == value) {
            return -5;
        }
        State was = now.copy();
        now.settings[which] = value;
        return act(was, was.settings[which]);
    }

    int pass(int ticks) {
        State was = now.copy();
        return act(was, passNow(ticks));
    }

    private int passNow(int ticks) {
        if (!in(ticks, 1, 99)) {
            return -2;
        }
        if (now.tick + ticks > 99999) {
            return -3;
        }
        int arrived = now.arrived();
        for (int i = 0; i < ticks; i++) {
            now.step();
        }
        return now.arrived() - arrived;
    }

    int type(char character) {
        if (text.length() == 60) {
            return -3;
        }
        return text.append(character).length();
    }

    int clearText() {
        int length = text.length();
        text.setLength(0);
        return length;
    }

    /** Where the text stops being the beginning of a traffic; -1 if it is one. */
    private int fault() {
        if (TRAFFIC.matcher(text).matches()) {
            return -1;
        }
        for (int length = 1; length <= text.length(); length++) {
            Matcher matcher = TRAFFIC.matcher(text.substring(0, length));
            if (!matcher.matches() && !matcher.hitEnd()) {
                return length - 1;
            }
        }
        return text.length();
    }

    int perform() {
        int fault = fault();
        if (fault >= 0) {
            return -100 - fault;
        }
        String[] things = text.toString().split(";");
        State was = now.copy();
        for (int i = 0; i < things.length; i++) {
            int answer = doThing(things[i]);
            if (answer < 0) {
                now = was;
                stop = new int[] {i, answer};
                return -4;
            }
        }
        return act(was, things.length);
    }

    private int doThing(String thing) {
        String[] words = thing.substring(1).split("[:>@]");
        int[] numbers = Arrays.stream(words).mapToInt(Integer::parseInt).toArray();
        switch (thing.charAt(0)) {
            case 'b': return come(1, numbers[0], numbers[1], numbers[2]);
            case 'r': return come(numbers[0], numbers[1], numbers[2], numbers[3]);
            case 'x': return turnNow(numbers[0]);
            default: return passNow(numbers[0]);
        }
    }

    int stopped(int what) {
        return in(what, 0, 1) ? stop[what] : -2;
    }

    int undo() {
        if (history.isEmpty()) {
            return -5;
        }
        now = history.removeLast();
        return history.size();
    }

    int keep() {
        kept = now.copy();
        return now.tick;
    }

    int restore() {
        if (kept == null) {
            return -5;
        }
        State was = now;
        now = kept.copy();
        return act(was, now.tick);
    }

    int boatOf(int boat, int what) {
        if (!in(boat, 0, now.vessels.size() - 1)) {
            return -1;
        }
        Vessel v = now.vessels.get(boat);
        boolean arrived = v.arrivedAt != null;
        switch (what) {
            case 0: return v.pieces.length;
            case 1: return v.draught;
            case 2: return v.from;
            case 3: return v.goal;
            case 4: return (int) Arrays.stream(v.pieces).filter(p -> p != v.from).count();
            case 5: return arrived ? 1 : 0;
            case 6: return arrived ? -5 : v.gate();
            case 7: return arrived ? -5 : now.queue(v.gate(), v.from > v.goal).indexOf(boat);
            case 8: return v.passages;
            case 9: return arrived ? v.arrivedAt : -5;
            default: return -2;
        }
    }

    int lock(int lock, int what) {
        if (!in(lock, 0, 4)) {
            return -1;
        }
        List<Integer> below = now.queue(lock, false);
        List<Integer> above = now.queue(lock, true);
        switch (what) {
            case 0: return now.high[lock] ? 1 : 0;
            case 1: return below.size();
            case 2: return above.size();
            case 3: return below.isEmpty() ? -5 : below.get(0);
            case 4: return above.isEmpty() ? -5 : above.get(0);
            case 5: return now.passages[lock];
            case 6: return now.fillings[lock];
            case 7: return now.taken[lock];
            default: return -2;
        }
    }

    int pound(int pound, int what) {
        if (!in(pound, 0, 5)) {
            return -1;
        }
        int there = 0;
        int arrived = 0;
        int greatest = 0;
        for (int i = 0; i < now.vessels.size(); i++) {
            Vessel v = now.vessels.get(i);
            if (v.hasPieceIn(pound) && v.arrivedAt == null) {
                there += 1 << i;
                greatest = Math.max(greatest, v.draught);
            } else if (v.hasPieceIn(pound)) {
                arrived += 1 << i;
            }
        }
        switch (what) {
            case 0: return now.depth[pound];
            case 1: return there;
            case 2: return arrived;
            case 3: return greatest;
            default: return -2;
        }
    }

    int reason(int boat) {
        if (!in(boat, 0, now.vessels.size() - 1)) {
            return -1;
        }
        State next = now.copy();
        next.step();
        if (next.vessels.get(boat).passages > now.vessels.get(boat).passages) {
            return 0;
        }
        if (now.vessels.get(boat).arrivedAt != null) {
            return 1;
        }
        State then = now.copy();
        Vessel v = then.vessels.get(boat);
        for (int lock = 0; lock < v.gate(); lock++) {
            then.work(lock);
        }
        if (then.aground(v)) {
            return 2;
        }
        if (then.queue(v.gate(), v.from > v.goal).indexOf(boat) > 0) {
            return 3;
        }
        return then.high[v.gate()] != v.from > v.goal ? 4 : 5;
    }

    int arrivesIn(int boat) {
        if (!in(boat, 0, now.vessels.size() - 1)) {
            return -1;
        }
        State then = now.copy();
        while (then.vessels.get(boat).arrivedAt == null) {
            then.step();
            if (then.tick - now.tick > 500) {
                return -5;
            }
        }
        return then.tick - now.tick;
    }

    int water(int way) {
        return in(way, 0, 1) ? now.water() : -2;
    }

    int bestTurn(int what) {
        if (!in(what, 0, 1)) {
            return -2;
        }
        int[] arrive = new int[6];
        for (int lock = 0; lock < 6; lock++) {
            State then = now.copy();
            if (lock < 5 && !then.turn(lock)) {
                continue;
            }
            for (int i = 0; i < 40; i++) {
                then.step();
            }
            arrive[lock] = then.arrived() - now.arrived();
        }
        int most = Arrays.stream(arrive).max().getAsInt();
        if (most == arrive[5]) {
            return -5;
        }
        int lock = 0;
        while (arrive[lock] < most) {
            lock++;
        }
        return what == 0 ? lock : most;
    }

    int ifTicks(int ticks, int what) {
        if (!in(ticks, 1, 500) || !in(what, 0, 3)) {
            return -2;
        }
        State then = now.copy();
        for (int i = 0; i < ticks; i++) {
            then.step();
        }
        int[] told = {then.arrived() - now.arrived(), then.allPassages() - now.allPassages(),
            then.lost - now.lost, then.agroundNow()};
        return told[what];
    }

    int count(int what) {
        if (!in(what, 0, 13)) {
            return -2;
        }
        int high = 0;
        for (boolean one : now.high) {
            high += one ? 1 : 0;
        }
        int[] told = {now.tick, now.vessels.size(), now.arrived(), now.agroundNow(), now.allPassages(),
            Arrays.stream(now.fillings).sum(), now.lost, now.spring, high,
            now.settings[0], now.settings[1], now.settings[2], history.size(), text.length()};
        return told[what];
    }
}
