import java.util.function.Supplier;

/**
 * All that an object can be asked, in one line: two objects with the same line stand alike. Asking uses an object up
 * (to learn how often one has tried, he has to try), so two are made: one tells how it stands, one what it can go back to.
 */
final class Probe {
    private static final int COUNTS = 9, MOST_WORDS = 6, MOST_TURNS = 12;

    private final LastCallersWord x;
    private final int persons;
    private final int doors;
    private final StringBuilder line = new StringBuilder();

    private Probe(LastCallersWord x) {
        this.x = x;
        persons = x.count(0);
        doors = x.count(1);
    }

    static String of(Supplier<LastCallersWord> make) {
        return now(make.get()) + "/ " + past(make.get());
    }

    private static String now(LastCallersWord x) {
        Probe probe = new Probe(x);
        probe.plan();
        probe.street();
        probe.sightings();
        probe.wrongTries();
        probe.text();
        return probe.line.toString();
    }

    private static String past(LastCallersWord x) {
        Probe probe = new Probe(x);
        for (int turn = 0; turn < MOST_TURNS && probe.add(x.undo()) >= 0; turn++) {
            probe.street();
        }
        for (int turn = 0; turn < MOST_TURNS && probe.add(x.back()) >= 0; turn++) {
            probe.street();
        }
        probe.wrongTries();
        return probe.line.toString();
    }

    private int add(int answer) {
        line.append(answer).append(' ');
        return answer;
    }

    private void plan() {
        for (int what = 0; what < COUNTS; what++) {
            add(x.count(what));
        }
        for (int i = 0; i < persons; i++) {
            add(x.person(i, 0));
        }
        for (int d = 0; d < doors; d++) {
            add(x.door(d, 0));
        }
        for (int k = 0; k < MOST_WORDS; k++) {
            add(x.guess(k));
        }
        add(x.mean(0));
        add(x.inTime(0));
        line.append("| ");
    }

    private void street() {
        add(x.count(3));
        for (int d = 0; d < doors; d++) {
            add(x.door(d, 1));
            add(x.door(d, 2));
            add(x.door(d, 3));
        }
        for (int i = 0; i < persons; i++) {
            for (int j = 0; j < persons; j++) {
                add(x.likes(i, j));
            }
        }
        line.append("| ");
    }

    private void sightings() {
        for (int d = 0; d < doors; d++) {
            add(x.called(d));
        }
        line.append("| ");
    }

    /** How often each can still try wrongly tells how often he has. */
    private void wrongTries() {
        int limit = x.count(4);
        for (int d = 0; d < doors; d++) {
            for (int i = 0; i < persons; i++) {
                int turn = 0;
                while (turn < limit && add(x.tries(i, d)) == 0) {
                    turn++;
                }
            }
        }
        line.append("| ");
    }

    private void text() {
        add(x.fault());
        add(x.forget());
        add(x.wipe());
    }
}
