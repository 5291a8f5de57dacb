import java.util.ArrayList;
import java.util.List;

/**
 * All that an object holds but STATUS, found by calls that take it apart: two that answer alike hold
 * the same lands, evenings that may be undone, images and text. It takes some 250 calls.
 */
final class Probe {
    private static final int LANDS = 6, EVENINGS = 8, IMAGES = 2;

    private final RavenSupper x;
    private final List<Long> found = new ArrayList<>();

    private Probe(RavenSupper x) {
        this.x = x;
    }

    static List<Long> of(RavenSupper x) {
        Probe probe = new Probe(x);
        probe.evenings();
        for (int i = 0; i < IMAGES; i++) {
            probe.found((long) x.from(i));
            probe.evenings();
        }
        probe.found(x.read());
        probe.look();
        return probe.found;
    }

    private void evenings() {
        look();
        for (int undone = 0; undone <= EVENINGS; undone++) {
            found(x.undo());
            look();
        }
    }

    /** FAR is asked beside the digest: a class may hold it in a row of its own. */
    private void look() {
        found(x.digest());
        for (int land = 0; land < LANDS; land++) {
            found(x.of(land, 4));
        }
    }

    private void found(long answer) {
        found.add(answer);
    }
}
