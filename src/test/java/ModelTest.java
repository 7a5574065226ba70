import java.util.ArrayDeque;
import java.util.ArrayList;
import java.util.Deque;
import java.util.List;
import java.util.Random;

/**
 * Runs of made-up calls (from fixed seeds) on ReleaseRows and on a plain model that goes second by
 * second, over and over until nothing more is so. Every answer and every refusal must be the same.
 */
public final class ModelTest {
    private static final int RUNS = 1_500;
    private static final int CALLS = 512;

    private static final int UNKNOWN = 1;
    private static final int RANGE = 2;
    private static final int STATE = 3;
    private static final int ROOM = 4;

    private static final class Refusal extends RuntimeException {
        private static final long serialVersionUID = 1L;
        final int kind;

        Refusal(int kind) {
            this.kind = kind;
        }
    }

    private static final class Unit {
        int home, cleaning, refilling, checks, done, is, since, sent;
        Incident at;
        final int[] used = new int[6];
    }

    private static final class Incident {
        int number, place, rows, inside, opened, closed;
        int watch = -1;
        int closedAt = -1;
        boolean open, visited;
    }

    private static final class Model {
        final List<Unit> units = new ArrayList<>();
        final List<Incident> incidents = new ArrayList<>();
        final Deque<Incident> row = new ArrayDeque<>();
        final int[] stock = new int[6];
        int now = 0;
        int span = 600;

        static void need(boolean holds, int kind) {
            if (!holds) {
                throw new Refusal(kind);
            }
        }

        static boolean in(int n, int least, int most) {
            return least <= n && n <= most;
        }

        Unit known(int unit) {
            need(in(unit, 0, units.size() - 1), UNKNOWN);
            return units.get(unit);
        }

        Incident incident(int incident) {
            need(in(incident, 0, incidents.size() - 1), UNKNOWN);
            return incidents.get(incident);
        }

        boolean step(Unit u) {
            switch (u.is) {
                case 3:
                    if (now - u.since < u.cleaning) {
                        return false;
                    }
                    break;
                case 4:
                    if (now - u.since < u.refilling) {
                        return false;
                    }
                    for (int g = 0; g < 6; g++) {
                        if (stock[g] < u.used[g]) {
                            return false;
                        }
                    }
                    for (int g = 0; g < 6; g++) {
                        stock[g] -= u.used[g];
                        u.used[g] = 0;
                    }
                    u.done = 0;
                    break;
                case 5:
                    if ((u.checks & u.done) != u.checks) {
                        return false;
                    }
                    break;
                default:
                    return false;
            }
            u.is = (u.is + 1) % 6;
            u.since = now;
            return true;
        }

        void arrive(Unit u, Incident i) {
            u.is = 1;
            u.at = i;
            u.since = now;
            u.sent++;
            i.visited = true;
        }

        boolean giveOne() {
            Unit best = null;
            for (Unit u : units) {
                if (u.is == 0 && (best == null || u.home < best.home)) {
                    best = u;
                }
            }
            if (best == null || row.isEmpty()) {
                return false;
            }
            arrive(best, row.removeFirst());
            return true;
        }

        int unitsAt(Incident i) {
            return (int) units.stream().filter(u -> u.at == i).count();
        }

        boolean closes(Incident i) {
            return i.open && i.visited && unitsAt(i) == 0 && !row.contains(i) && i.inside == 0
                && i.rows % 8 == 7 && (i.watch == -1 || i.watch <= now);
        }

        int settle() {
            int closed = 0;
            boolean more = true;
            while (more) {
                more = false;
                for (Unit u : units) {
                    while (step(u)) {
                        more = true;
                    }
                }
                while (giveOne()) {
                    more = true;
                }
                for (Incident i : incidents) {
                    if (closes(i)) {
                        i.open = false;
                        i.closed++;
                        i.closedAt = now;
                        closed++;
                        more = true;
                    }
                }
            }
            return closed;
        }

        int unit(int home, int cleaning, int refilling, int checks) {
            need(in(home, 0, 99_999) && in(cleaning, 0, 10_000), RANGE);
            need(in(refilling, 0, 10_000) && in(checks, 0, 255), RANGE);
            need(units.size() < 24, ROOM);
            Unit u = new Unit();
            u.home = home;
            u.cleaning = cleaning;
            u.refilling = refilling;
            u.checks = checks;
            u.since = now;
            units.add(u);
            settle();
            return units.size() - 1;
        }

        int call(int place, boolean waits) {
            need(in(place, 0, 99), RANGE);
            need(!waits || row.size() < 30, ROOM);
            Incident found = null;
            Incident latest = null;
            for (Incident i : incidents) {
                if (i.place == place && i.open) {
                    found = i;
                }
                if (i.place == place && !i.open && (latest == null || i.closedAt > latest.closedAt)) {
                    latest = i;
                }
            }
            if (found == null && latest != null && now - latest.closedAt <= span) {
                found = latest;
            }
            if (found == null) {
                need(incidents.size() < 20, ROOM);
                found = new Incident();
                found.number = incidents.size();
                found.place = place;
                incidents.add(found);
            }
            if (!found.open) {
                found.open = true;
                found.opened++;
                found.rows = 0;
                found.inside = 0;
                found.watch = -1;
                found.visited = false;
            }
            if (waits) {
                row.addLast(found);
            }
            settle();
            return found.number;
        }

        int send(int unit, int incident) {
            Unit u = known(unit);
            Incident i = incident(incident);
            need(u.is == 0 && i.open, STATE);
            arrive(u, i);
            settle();
            return 0;
        }

        int release(int incident, int n) {
            Incident i = incident(incident);
            need(in(n, 1, 24), RANGE);
            need(i.open, STATE);
            List<Unit> there = new ArrayList<>(units);
            there.removeIf(u -> u.at != i);
            there.sort((a, b) -> b.home - a.home);
            int released = Math.min(n, there.size());
            for (Unit u : there.subList(0, released)) {
                u.is = 2;
                u.at = null;
                u.since = now;
            }
            settle();
            return released;
        }

        int back(int unit) {
            Unit u = known(unit);
            need(u.is == 2, STATE);
            u.is = 3;
            u.since = now;
            settle();
            return 0;
        }

        int use(int unit, int good, int n) {
            Unit u = known(unit);
            need(in(good, 0, 5), UNKNOWN);
            need(in(n, 1, 1_000), RANGE);
            need(u.is == 1 || u.is == 2, STATE);
            need(u.used[good] + n <= 100_000, ROOM);
            u.used[good] += n;
            return u.used[good];
        }

        int deliver(int good, int n) {
            need(in(good, 0, 5), UNKNOWN);
            need(in(n, 0, 100_000), RANGE);
            need(stock[good] + n <= 10_000_000, ROOM);
            stock[good] += n;
            int answer = stock[good];
            settle();
            return answer;
        }

        int check(int unit, int bits) {
            Unit u = known(unit);
            need(in(bits, 0, 255), RANGE);
            need(u.is == 5, STATE);
            u.done |= bits;
            settle();
            return 0;
        }

        int inside(int incident, int n) {
            Incident i = incident(incident);
            need(in(n, 0, 1_000), RANGE);
            need(i.open, STATE);
            i.inside = n;
            settle();
            return 0;
        }

        int report(int incident, int reportRow) {
            Incident i = incident(incident);
            need(in(reportRow, 0, 7), UNKNOWN);
            need(i.open, STATE);
            i.rows |= 1 << reportRow;
            settle();
            return 0;
        }

        int watch(int incident, int until) {
            Incident i = incident(incident);
            need(in(until, -1, 999_999), RANGE);
            need(i.open, STATE);
            i.watch = until;
            settle();
            return 0;
        }

        int tick(int seconds) {
            need(in(seconds, 1, 5_000) && now + seconds <= 999_999, RANGE);
            int closed = 0;
            for (int i = 0; i < seconds; i++) {
                now++;
                closed += settle();
            }
            return closed;
        }

        int unitAt(int unit, int what) {
            Unit u = known(unit);
            need(in(what, 0, 4), UNKNOWN);
            int toDo = u.is == 5 ? u.checks & ~u.done : 0;
            return new int[] {u.is, u.at == null ? -1 : u.at.number, u.since, toDo, u.sent}[what];
        }

        int incidentAt(int incident, int what) {
            Incident i = incident(incident);
            need(in(what, 0, 7), UNKNOWN);
            int waiting = (int) row.stream().filter(w -> w == i).count();
            int late = i.open && i.watch >= 0 && i.watch <= now ? 1 : 0;
            return new int[] {i.open ? 1 : 0, unitsAt(i), waiting, i.opened, i.closed, i.closedAt, i.rows,
                late}[what];
        }

        int count(int what) {
            need(in(what, 0, 3) || in(what, 10, 15), UNKNOWN);
            if (what >= 10) {
                return stock[what - 10];
            }
            int ready = (int) units.stream().filter(u -> u.is == 0).count();
            int open = (int) incidents.stream().filter(i -> i.open).count();
            return new int[] {now, ready, row.size(), open}[what];
        }
    }

    /** One call of the face, asked of both. */
    private static final class Call {
        final int method, a, b, c, d;

        Call(int method, int a, int b, int c, int d) {
            this.method = method;
            this.a = a;
            this.b = b;
            this.c = c;
            this.d = d;
        }

        int ask(Model m) {
            switch (method) {
                case 0: return m.unit(a, b, c, d);
                case 1:
                    Unit u = m.known(a);
                    Model.need(Model.in(b, 0, 99_999), RANGE);
                    u.home = b;
                    return 0;
                case 2:
                    Model.need(Model.in(a, 0, 100_000), RANGE);
                    m.span = a;
                    return 0;
                case 3: return m.call(a, b > 0);
                case 4: return m.send(a, b);
                case 5: return m.release(a, b);
                case 6: return m.back(a);
                case 7: return m.use(a, b, c);
                case 8: return m.deliver(a, b);
                case 9: return m.check(a, b);
                case 10: return m.inside(a, b);
                case 11: return m.report(a, b);
                case 12: return m.watch(a, b);
                case 13: return m.tick(a);
                case 14: return m.unitAt(a, b);
                case 15: return m.incidentAt(a, b);
                default: return m.count(a);
            }
        }

        int ask(ReleaseRows x) {
            switch (method) {
                case 0: return x.unit(a, b, c, d);
                case 1: x.home(a, b); return 0;
                case 2: x.span(a); return 0;
                case 3: return x.call(a, b > 0);
                case 4: x.send(a, b); return 0;
                case 5: return x.release(a, b);
                case 6: x.back(a); return 0;
                case 7: return x.use(a, b, c);
                case 8: return x.deliver(a, b);
                case 9: x.check(a, b); return 0;
                case 10: x.inside(a, b); return 0;
                case 11: x.report(a, b); return 0;
                case 12: x.watch(a, b); return 0;
                case 13: return x.tick(a);
                case 14: return x.unitAt(a, b);
                case 15: return x.incidentAt(a, b);
                default: return x.count(a);
            }
        }

        String answer(Model m) {
            try {
                return String.valueOf(ask(m));
            } catch (Refusal e) {
                return new String[] {"", "IllegalArgumentException", "IndexOutOfBoundsException",
                    "IllegalStateException", "UnsupportedOperationException"}[e.kind];
            }
        }

        String answer(ReleaseRows x) {
            try {
                return String.valueOf(ask(x));
            } catch (RuntimeException e) {
                return e.getClass().getSimpleName();
            }
        }

        @Override
        public String toString() {
            return "method " + method + " (" + a + ", " + b + ", " + c + ", " + d + ")";
        }
    }

    private static final int[] WRONG = {
        Integer.MIN_VALUE, -2, -1, 24, 25, 100, 256, 1_001, 5_001, 10_001, 100_001, 1_000_000, Integer.MAX_VALUE
    };

    private final Random random;
    private final ReleaseRows rows = new ReleaseRows();
    private final Model model = new Model();
    private final int pace;

    private ModelTest(long seed) {
        random = new Random(seed);
        pace = new int[] {3, 12, 60}[random.nextInt(3)];
    }

    private int upTo(int most) {
        return random.nextInt(most + 1);
    }

    /** Mostly a number that fits, now and then one that may not. */
    private int fit(int number) {
        return random.nextInt(60) == 0 ? WRONG[random.nextInt(WRONG.length)] : number;
    }

    private int anyUnit() {
        return fit(upTo(Math.max(0, model.units.size() - 1)));
    }

    private int unitThatIs(int state) {
        for (int tries = 0; tries < 8; tries++) {
            int unit = anyUnit();
            if (unit < 0 || unit >= model.units.size() || model.units.get(unit).is == state) {
                return unit;
            }
        }
        return anyUnit();
    }

    private int anyIncident() {
        for (int tries = 0; tries < 3; tries++) {
            int incident = upTo(Math.max(0, model.incidents.size() - 1));
            if (incident < model.incidents.size() && model.incidents.get(incident).open) {
                return fit(incident);
            }
        }
        return fit(upTo(Math.max(0, model.incidents.size() - 1)));
    }

    private int anyTick() {
        int kind = random.nextInt(40);
        return kind == 0 ? 1 + upTo(4_999) : kind < 4 ? 1 + upTo(700) : 1 + upTo(pace);
    }

    private int anyWatch() {
        return random.nextInt(3) == 0 ? -1 : Math.max(-1, model.now - 2 + upTo(pace * 2));
    }

    private Call makeChange() {
        int kind = random.nextInt(100);
        if (kind < 4) {
            return new Call(0, fit(upTo(5)), fit(upTo(pace)), fit(upTo(pace)), fit(random.nextInt(3) * upTo(255)));
        }
        if (kind < 8) {
            return new Call(1, anyUnit(), fit(upTo(5)), 0, 0);
        }
        if (kind < 10) {
            return new Call(2, fit(upTo(pace * 10)), 0, 0, 0);
        }
        if (kind < 24) {
            return new Call(3, fit(upTo(4)), upTo(1), 0, 0);
        }
        if (kind < 30) {
            return new Call(4, unitThatIs(0), anyIncident(), 0, 0);
        }
        if (kind < 40) {
            return new Call(5, anyIncident(), fit(1 + upTo(3)), 0, 0);
        }
        if (kind < 50) {
            return new Call(6, unitThatIs(2), 0, 0, 0);
        }
        if (kind < 55) {
            return new Call(7, unitThatIs(1 + upTo(1)), fit(upTo(5)), fit(1 + upTo(9)), 0);
        }
        if (kind < 63) {
            return new Call(8, fit(upTo(5)), fit(upTo(12)), 0, 0);
        }
        if (kind < 69) {
            return new Call(9, unitThatIs(5), fit(random.nextInt(2) == 0 ? 255 : upTo(255)), 0, 0);
        }
        if (kind < 72) {
            return new Call(10, anyIncident(), fit(Math.max(0, upTo(4) - 3)), 0, 0);
        }
        if (kind < 87) {
            return new Call(11, anyIncident(), fit(random.nextInt(4) == 0 ? upTo(8) : upTo(2)), 0, 0);
        }
        if (kind < 90) {
            return new Call(12, anyIncident(), fit(anyWatch()), 0, 0);
        }
        return new Call(13, fit(anyTick()), 0, 0, 0);
    }

    private Call makeQuestion() {
        int kind = random.nextInt(10);
        if (kind < 4) {
            return new Call(14, anyUnit(), fit(upTo(4)), 0, 0);
        }
        if (kind < 8) {
            return new Call(15, anyIncident(), fit(upTo(7)), 0, 0);
        }
        return new Call(16, random.nextInt(3) == 0 ? upTo(3) : fit(10 + upTo(5)), 0, 0, 0);
    }

    /** The first call whose answers differ, or an empty text. */
    private String run() {
        for (int i = 0; i < CALLS; i++) {
            Call call = i % 2 == 0 ? makeChange() : makeQuestion();
            String due = call.answer(model);
            String got = call.answer(rows);
            if (!got.equals(due)) {
                return "call " + i + ", " + call + " answered " + got + ", due is " + due;
            }
        }
        return "";
    }

    public static void main(String[] args) {
        int wrong = 0;
        int closed = 0;
        int reopened = 0;
        int sent = 0;
        for (int seed = 0; seed < RUNS; seed++) {
            ModelTest test = new ModelTest(seed);
            String fault = test.run();
            if (!fault.isEmpty()) {
                wrong++;
                System.out.println("seed " + seed + ": " + fault);
            }
            for (Incident i : test.model.incidents) {
                closed += i.closed;
                reopened += i.opened - 1;
            }
            for (Unit u : test.model.units) {
                sent += u.sent;
            }
        }
        System.out.println(RUNS + " runs: " + sent + " sent, " + closed + " closed, " + reopened + " reopened");
        // Runs that reach nothing would compare nothing.
        if (wrong != 0 || closed < RUNS || reopened < RUNS / 2 || sent < 10 * RUNS) {
            System.exit(1);
        }
    }
}
