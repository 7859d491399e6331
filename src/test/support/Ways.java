/** Ways to a state of a league, and looks at it, that several tests use. */
public final class Ways {
    private Ways() {
    }

    public static LeagueTables teams(int... grounds) {
        LeagueTables x = new LeagueTables();
        for (int ground : grounds) {
            x.team(ground);
        }
        return x;
    }

    public static LeagueTables drawn(int... grounds) {
        LeagueTables x = teams(grounds);
        x.draw();
        return x;
    }

    // So many teams, each with a ground of its own.
    public static LeagueTables drawnOf(int teams) {
        LeagueTables x = new LeagueTables();
        for (int team = 0; team < teams; team++) {
            x.team(team);
        }
        x.draw();
        return x;
    }

    // Plays all that belongs to the present week, home goals and away goals each.
    public static void playWeek(LeagueTables x, int home, int away) {
        for (int m = 0; m < x.account(4); m++) {
            if (x.meetingOf(m, 0) == x.account(3) && x.meetingOf(m, 3) != 1) {
                x.result(m, home, away);
            }
        }
    }

    // Lets weeks come till the week told, all that is due before it being played.
    public static void playTo(LeagueTables x, int week, int home, int away) {
        while (x.account(3) < week) {
            playWeek(x, home, away);
            x.next();
        }
    }

    // Tells results by their numbers, from the meeting 0 on, two goals each; weeks come as they must.
    public static void tell(LeagueTables x, int... goals) {
        for (int m = 0; 2 * m < goals.length; m++) {
            if (x.meetingOf(m, 0) > x.account(3)) {
                x.next();
            }
            x.result(m, goals[2 * m], goals[2 * m + 1]);
        }
    }

    public static void write(LeagueTables x, String text) {
        for (int i = 0; i < text.length(); i++) {
            x.append(text.charAt(i));
        }
    }

    public static int carryOut(LeagueTables x, String text) {
        write(x, text);
        return x.commands();
    }

    public static String lineOf(LeagueTables x, int team) {
        return shown(x, x.line(team));
    }

    public static String shown(LeagueTables x, int length) {
        StringBuilder line = new StringBuilder();
        for (int i = 0; i < length; i++) {
            line.append(x.character(i));
        }
        return line.toString();
    }

    public static int bool(boolean is) {
        return is ? 1 : 0;
    }

    // All that can be asked, but for the line and the reason; with two teams it takes some 60 calls.
    public static String look(LeagueTables x) {
        StringBuilder seen = new StringBuilder();
        for (int what = 0; what <= 14; what++) {
            seen.append(x.account(what)).append(' ');
        }
        for (int team = 0; team < x.account(0); team++) {
            for (int what = 0; what <= 8; what++) {
                seen.append(x.teamOf(team, what)).append(' ');
            }
            for (int rule = 0; rule <= 4; rule++) {
                seen.append(x.valueOf(team, rule)).append(' ');
            }
            seen.append(x.placeOf(team)).append(' ');
        }
        for (int m = 0; m < x.account(4); m++) {
            for (int what = 0; what <= 6; what++) {
                seen.append(x.meetingOf(m, what)).append(' ');
            }
        }
        return seen.append(x.faultPosition()).toString();
    }

    // The reason that is kept, as "reason detail command".
    public static String reasonOf(LeagueTables x) {
        return x.reason(0) + " " + x.reason(1) + " " + x.reason(2);
    }
}
