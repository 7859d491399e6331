/** Counts the answers that are not as due, and prints each of them. */
public final class Checks {
    /** A call whose answer is a number, a boolean counting 1 or 0. */
    public interface Call {
        double answer();
    }

    private final String title;
    private String place = "";
    private int done;
    private int wrong;

    public Checks(String title) {
        this.title = title;
    }

    // Tells with each wrong answer where it belongs.
    public void where(String place) {
        this.place = place.isEmpty() ? "" : place + ": ";
    }

    public int done() {
        return done;
    }

    public void due(String call, double want, Call made) {
        told(call, made, "" + want);
    }

    public void yes(String call, boolean isSo) {
        note(call, "" + isSo, "true");
    }

    public void fails(String call, Class<? extends RuntimeException> want, Call made) {
        told(call, made, want.getName());
    }

    // The reason as "reason detail command"; a reason of another kind is kept first, so that an old one is seen.
    public void refused(String call, LeagueTables x, String reason, Call made) {
        told("a team that there is not", () -> x.ground(-77, 0), UnsupportedOperationException.class.getName());
        told(call, made, UnsupportedOperationException.class.getName());
        note(call + ": reason", Ways.reasonOf(x), reason);
    }

    private void told(String call, Call made, String want) {
        String got;
        try {
            got = "" + made.answer();
        } catch (RuntimeException e) {
            got = e.getClass().getName();
        }
        note(call, got, want);
    }

    public void note(String call, String got, String want) {
        done++;
        if (!got.equals(want)) {
            wrong++;
            System.out.println(title + ": " + place + call + " answered " + got + ", due is " + want);
        }
    }

    public void end() {
        System.out.println(title + ": " + done + " answers looked at, " + wrong + " not as due");
        if (wrong != 0) {
            System.exit(1);
        }
    }
}
