import java.util.ArrayList;
import java.util.List;

/**
 * What the tests share: an answer against the one that is due, a refusal, and all that an object shows.
 * They extend it, since nothing can be imported from a file without a package.
 */
abstract class Due {
    static final Class<? extends RuntimeException> UNKNOWN = IllegalArgumentException.class;
    static final Class<? extends RuntimeException> RANGE = IndexOutOfBoundsException.class;
    static final Class<? extends RuntimeException> STATE = IllegalStateException.class;
    static final Class<? extends RuntimeException> ROOM = UnsupportedOperationException.class;

    static final int LOW = Integer.MIN_VALUE;
    static final int HIGH = Integer.MAX_VALUE;

    static final int READY = 0;
    static final int AT_INCIDENT = 1;
    static final int RETURNING = 2;
    static final int CLEANING = 3;
    static final int REFILLING = 4;
    static final int CHECKED = 5;

    private static int wrong = 0;

    static void due(String what, Object got, Object want) {
        if (!got.equals(want)) {
            wrong++;
            System.out.println(what + " answered " + got + ", due is " + want);
        }
    }

    /** The very class is compared: what the machine throws is of a class below the document's. */
    static void refused(String what, Class<? extends RuntimeException> want, Runnable call) {
        try {
            call.run();
            due(what, "nothing thrown", want.getSimpleName());
        } catch (RuntimeException e) {
            due(what, e.getClass().getSimpleName(), want.getSimpleName());
        }
    }

    /** To be called last in a main method. */
    static void end() {
        if (wrong != 0) {
            System.out.println(wrong + " answers are not as due");
            System.exit(1);
        }
    }

    /** All that an object shows of so many units and incidents, and of its counts. */
    static List<Integer> shown(ReleaseRows x, int units, int incidents) {
        List<Integer> all = new ArrayList<>();
        for (int unit = 0; unit < units; unit++) {
            all.addAll(unitShown(x, unit));
        }
        for (int incident = 0; incident < incidents; incident++) {
            all.addAll(incidentShown(x, incident));
        }
        for (int what : new int[] {0, 1, 2, 3, 10, 11, 12, 13, 14, 15}) {
            all.add(x.count(what));
        }
        return all;
    }

    static List<Integer> unitShown(ReleaseRows x, int unit) {
        List<Integer> all = new ArrayList<>();
        for (int what = 0; what <= 4; what++) {
            all.add(x.unitAt(unit, what));
        }
        return all;
    }

    static List<Integer> incidentShown(ReleaseRows x, int incident) {
        List<Integer> all = new ArrayList<>();
        for (int what = 0; what <= 7; what++) {
            all.add(x.incidentAt(incident, what));
        }
        return all;
    }

    static void tellRows(ReleaseRows x, int incident) {
        x.report(incident, 0);
        x.report(incident, 1);
        x.report(incident, 2);
    }

    /** A unit goes to an incident and leaves it, so that the incident closes. */
    static void runToClose(ReleaseRows x, int unit, int incident) {
        x.send(unit, incident);
        tellRows(x, incident);
        x.release(incident, 1);
    }

    /** A unit goes to an incident where no other is, leaves it, and comes home. */
    static void runHome(ReleaseRows x, int unit, int incident) {
        x.send(unit, incident);
        x.release(incident, 1);
        x.back(unit);
    }

    /** Asks the second only once: an object is promised for 512 calls. */
    static void tickTo(ReleaseRows x, int second) {
        int left = second - x.count(0);
        while (left > 0) {
            int step = Math.min(5_000, left);
            x.tick(step);
            left -= step;
        }
    }
}
