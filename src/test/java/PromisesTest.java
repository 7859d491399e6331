import java.util.NoSuchElementException;

/** For each promise the ordinary inputs, the edges that the document names, and wrong inputs. */
public final class PromisesTest {
    private static final Class<UnsupportedOperationException> REFUSED = UnsupportedOperationException.class;
    private static final Class<IndexOutOfBoundsException> INDEX = IndexOutOfBoundsException.class;
    private static final Class<IllegalArgumentException> ARGUMENT = IllegalArgumentException.class;
    private static final Class<IllegalStateException> STATE = IllegalStateException.class;
    private static final Class<NoSuchElementException> NONE = NoSuchElementException.class;
    private static final Class<ArithmeticException> ARITHMETIC = ArithmeticException.class;
    private static final Checks checks = new Checks("promises");

    public static void main(String[] args) {
        newObject();
        team();
        ground();
        draw();
        give();
        rules();
        result();
        back();
        putOff();
        next();
        teamOf();
        pointsAgain();
        meetingOf();
        find();
        byeIn();
        meetingsIn();
        clashes();
        freeWeek();
        ranked();
        placeOf();
        valueOf();
        tied();
        most();
        isSafe();
        isOut();
        run();
        append();
        commands();
        faultPosition();
        reason();
        line();
        character();
        meanGoals();
        homeShare();
        account();
        undo();
        saveAndRestore();
        checks.end();
    }

    private static void refused(LeagueTables x, String call, int reason, int detail, Checks.Call made) {
        checks.fails(call, REFUSED, made);
        checks.due(call + ": reason", reason, () -> x.reason(0));
        checks.due(call + ": detail", detail, () -> x.reason(1));
        checks.due(call + ": command", 0, () -> x.reason(2));
    }

    // ---- Promises 1 to 10

    private static void newObject() {
        LeagueTables x = new LeagueTables();
        int[] accounts = {0, 0, 0, 0, 0, 0, 0, 3, 1, 2, 0, 0, 0, 0, 0};
        for (int what = 0; what < accounts.length; what++) {
            int at = what;
            checks.due("new, account " + what, accounts[what], () -> x.account(at));
        }
        checks.due("new, faultPosition", -1, x::faultPosition);
        checks.fails("new, reason", NONE, () -> x.reason(0));
        checks.fails("new, team 0", INDEX, () -> x.teamOf(0, 0));
        checks.fails("new, ranked", NONE, () -> x.ranked(0));
        checks.fails("new, undo", STATE, x::undo);
    }

    private static void team() {
        LeagueTables x = new LeagueTables();
        refused(x, "team(-1)", 1, 0, () -> x.team(-1));
        refused(x, "team(10)", 1, 0, () -> x.team(10));
        checks.due("no team yet", 0, () -> x.account(0));
        for (int i = 0; i < 8; i++) {
            int ground = i + 2;
            checks.due("team number", i, () -> x.team(ground));
        }
        checks.due("ground of the last", 9, () -> x.teamOf(7, 0));
        refused(x, "ninth team", 2, 8, () -> x.team(0));
        refused(x, "ninth team with a wrong ground", 1, 0, () -> x.team(10));
        x.draw();
        refused(x, "ninth team when drawn", 4, 0, () -> x.team(0));
        refused(x, "wrong ground when drawn", 1, 0, () -> x.team(-1));
        LeagueTables shared = Ways.teams(4, 4);
        checks.due("a ground of two", 4, () -> shared.teamOf(1, 0));
        checks.due("ground 0", 2, () -> shared.team(0));
    }

    private static void ground() {
        LeagueTables x = Ways.teams(3, 5);
        checks.due("ground before", 3, () -> x.ground(0, 9));
        checks.due("ground now", 9, () -> x.teamOf(0, 0));
        checks.due("the same ground", 9, () -> x.ground(0, 9));
        checks.due("the same ground is a change", 4, () -> x.account(13));
        refused(x, "no team 2", 3, 2, () -> x.ground(2, 10));
        refused(x, "no team -7", 3, -7, () -> x.ground(-7, 0));
        refused(x, "ground 10", 1, 0, () -> x.ground(1, 10));
        refused(x, "ground -1", 1, 0, () -> x.ground(1, -1));
        checks.due("ground kept", 5, () -> x.teamOf(1, 0));
        x.draw();
        checks.due("ground when drawn", 5, () -> x.ground(1, 0));
    }

    private static void draw() {
        LeagueTables x = new LeagueTables();
        refused(x, "draw without teams", 6, 0, x::draw);
        x.team(0);
        refused(x, "draw with a team", 6, 1, x::draw);
        x.team(0);
        checks.due("weeks of 2", 2, x::draw);
        refused(x, "draw again", 4, 0, x::draw);
        int[] weeks = {2, 6, 6, 10, 10, 14, 14};
        for (int n = 2; n <= 8; n++) {
            LeagueTables y = Ways.teams(new int[n]);
            checks.due("weeks of " + n, weeks[n - 2], y::draw);
            checks.due("meetings of " + n, n * (n - 1), () -> y.account(4));
            eachPairTwice(y, n);
        }
        roundsOfSix();
        roundsOfFive();
    }

    private static void eachPairTwice(LeagueTables x, int teams) {
        int[] seen = new int[64];
        int[] perWeek = new int[14 * 8];
        for (int m = 0; m < x.account(4); m++) {
            int week = x.meetingOf(m, 0);
            int home = x.meetingOf(m, 1);
            int away = x.meetingOf(m, 2);
            seen[8 * home + away]++;
            perWeek[8 * week + home]++;
            perWeek[8 * week + away]++;
        }
        boolean isOnce = true;
        for (int home = 0; home < teams; home++) {
            for (int away = 0; away < teams; away++) {
                isOnce &= seen[8 * home + away] == (home == away ? 0 : 1);
            }
        }
        checks.yes("each pair of " + teams + " at each ground once", isOnce);
        boolean isSingle = true;
        for (int count : perWeek) {
            isSingle &= count <= 1;
        }
        checks.yes("no team of " + teams + " twice in a week", isSingle);
    }

    private static void meetings(String call, LeagueTables x, int[][] weekHomeAway) {
        for (int i = 0; i < weekHomeAway.length; i++) {
            int m = i;
            checks.due(call + ", week of " + m, weekHomeAway[m][0], () -> x.meetingOf(m, 0));
            checks.due(call + ", home of " + m, weekHomeAway[m][1], () -> x.meetingOf(m, 1));
            checks.due(call + ", away of " + m, weekHomeAway[m][2], () -> x.meetingOf(m, 2));
        }
    }

    // Worked out by hand from the words of the document: places 0 to 5, the circle has 5.
    private static void roundsOfSix() {
        meetings("six teams", Ways.drawn(0, 1, 2, 3, 4, 5), new int[][] {
            {0, 0, 5}, {0, 2, 3}, {0, 4, 1},
            {1, 0, 2}, {1, 3, 4}, {1, 5, 1},
            {2, 1, 3}, {2, 2, 5}, {2, 4, 0},
            {3, 0, 1}, {3, 2, 4}, {3, 5, 3},
            {4, 1, 2}, {4, 3, 0}, {4, 4, 5},
            {5, 1, 4}, {5, 3, 2}, {5, 5, 0},
            {6, 1, 5}, {6, 2, 0}, {6, 4, 3},
            {7, 0, 4}, {7, 3, 1}, {7, 5, 2},
            {8, 1, 0}, {8, 3, 5}, {8, 4, 2},
            {9, 0, 3}, {9, 2, 1}, {9, 5, 4}});
    }

    // The same circle, where the place 5 stands for the bye.
    private static void roundsOfFive() {
        meetings("five teams", Ways.drawn(0, 1, 2, 3, 4), new int[][] {
            {0, 2, 3}, {0, 4, 1}, {1, 0, 2}, {1, 3, 4}, {2, 1, 3}, {2, 4, 0}, {3, 0, 1}, {3, 2, 4},
            {4, 1, 2}, {4, 3, 0}, {5, 1, 4}, {5, 3, 2}, {6, 2, 0}, {6, 4, 3}, {7, 0, 4}, {7, 3, 1},
            {8, 1, 0}, {8, 4, 2}, {9, 0, 3}, {9, 2, 1}});
    }

    private static void give() {
        LeagueTables x = Ways.teams(0, 1);
        checks.due("give first", 31, () -> x.give(5, 0));
        checks.due("give second", 50, () -> x.give(1, 3));
        checks.due("give third", 13, () -> x.give(2, 1));
        checks.due("win", 2, () -> x.account(7));
        checks.due("draw", 1, () -> x.account(8));
        refused(x, "win 0", 1, 0, () -> x.give(0, 1));
        refused(x, "win 6", 1, 0, () -> x.give(6, 1));
        refused(x, "draw -1", 1, 0, () -> x.give(3, -1));
        refused(x, "draw 4", 1, 0, () -> x.give(3, 4));
        x.draw();
        checks.due("give when drawn", 21, () -> x.give(4, 2));
        x.result(0, 1, 0);
        checks.due("points as given", 4, () -> x.teamOf(0, 1));
        refused(x, "give when one is played", 12, 1, () -> x.give(3, 1));
        refused(x, "wrong give when one is played", 1, 0, () -> x.give(6, 1));
        x.next();
        x.result(1, 2, 2);
        refused(x, "give when two are played", 12, 2, () -> x.give(3, 1));
        checks.due("points of a draw as given", 6, () -> x.teamOf(0, 1));
        x.back(1);
        refused(x, "give when one is played again", 12, 1, () -> x.give(3, 1));
    }

    private static void rules() {
        LeagueTables x = Ways.teams(0, 1);
        checks.due("three rules", 3, () -> x.rules(4, 3, 2));
        checks.due("account of rules", 3, () -> x.account(9));
        checks.due("no rules", 0, () -> x.rules(-1, -1, -1));
        checks.due("one rule, told last", 1, () -> x.rules(-1, -1, 0));
        checks.due("two rules with a gap", 2, () -> x.rules(0, -1, 1));
        refused(x, "rule 5", 1, 0, () -> x.rules(5, 0, 1));
        refused(x, "rule -2", 1, 0, () -> x.rules(0, 1, -2));
        refused(x, "rule 5 and one twice", 1, 0, () -> x.rules(2, 2, 5));
        refused(x, "rule 0 twice", 13, 0, () -> x.rules(0, 0, 1));
        refused(x, "rule 3 twice", 13, 3, () -> x.rules(3, -1, 3));
        refused(x, "rule 4 twice", 13, 4, () -> x.rules(1, 4, 4));
        refused(x, "rule 2 three times", 13, 2, () -> x.rules(2, 2, 2));
        checks.due("rules kept", 2, () -> x.account(9));
    }

    private static void result() {
        LeagueTables x = Ways.teams(0, 1, 2, 3);
        refused(x, "result, not drawn", 5, 0, () -> x.result(99, 21, 0));
        x.draw();
        refused(x, "result, no meeting 12", 3, 12, () -> x.result(12, 21, 0));
        refused(x, "result, no meeting -1", 3, -1, () -> x.result(-1, 0, 0));
        refused(x, "result, 21 goals", 1, 0, () -> x.result(0, 21, 0));
        refused(x, "result, -1 goals", 1, 0, () -> x.result(0, 0, -1));
        refused(x, "result, wrong goals in another week", 1, 0, () -> x.result(2, 0, 21));
        refused(x, "result, another week", 7, 1, () -> x.result(2, 0, 0));
        refused(x, "result, the last week", 7, 5, () -> x.result(11, 0, 0));
        checks.due("result", 1, () -> x.result(1, 20, 0));
        refused(x, "result, played", 8, 0, () -> x.result(1, 0, 0));
        refused(x, "result, played, wrong goals", 1, 0, () -> x.result(1, 0, 21));
        checks.due("last result of the week", 0, () -> x.result(0, 0, 20));
        x.next();
        refused(x, "result, played in a week before", 8, 0, () -> x.result(1, 0, 0));
        checks.due("goals", 20, () -> x.meetingOf(0, 5));
        checks.due("state", 1, () -> x.meetingOf(0, 3));
    }

    private static void back() {
        LeagueTables x = Ways.teams(0, 1, 2, 3);
        refused(x, "back, not drawn", 5, 0, () -> x.back(0));
        x.draw();
        refused(x, "back, no meeting", 3, 12, () -> x.back(12));
        refused(x, "back, open", 9, 0, () -> x.back(0));
        refused(x, "back, open in another week", 9, 0, () -> x.back(5));
        x.putOff(0, 1);
        refused(x, "back, put off", 9, 2, () -> x.back(0));
        x.result(1, 2, 1);
        checks.due("back", 1, () -> x.back(1));
        checks.due("open again", 0, () -> x.meetingOf(1, 3));
        checks.due("no goals", -1, () -> x.meetingOf(1, 4));
        checks.due("no goals away", -1, () -> x.meetingOf(1, 5));
        x.result(1, 2, 1);
        x.next();
        refused(x, "back, in a week before", 7, 0, () -> x.back(1));
        checks.due("two of three left", 2, () -> x.result(0, 1, 1));
        checks.due("back of one put off", 3, () -> x.back(0));
        checks.due("put off again", 2, () -> x.meetingOf(0, 3));
    }

    private static void putOff() {
        LeagueTables x = Ways.teams(0, 1, 2, 0);
        refused(x, "putOff, not drawn", 5, 0, () -> x.putOff(0, 1));
        x.draw();
        refused(x, "putOff, no meeting", 3, 12, () -> x.putOff(12, 0));
        refused(x, "putOff by 0", 1, 0, () -> x.putOff(0, 0));
        refused(x, "putOff by 10", 1, 0, () -> x.putOff(0, 10));
        refused(x, "putOff of another week", 7, 1, () -> x.putOff(2, 9));
        refused(x, "putOff behind the last week", 10, 6, () -> x.putOff(0, 6));
        // In the week 1 the teams 0 and 3, which share a ground, are at home.
        checks.due("putOff with two clashes", 2, () -> x.putOff(0, 1));
        checks.due("state", 2, () -> x.meetingOf(0, 3));
        checks.due("week", 1, () -> x.meetingOf(0, 0));
        checks.due("drawn week", 0, () -> x.meetingOf(0, 6));
        refused(x, "putOff of one that left", 7, 1, () -> x.putOff(0, 1));
        x.result(1, 1, 1);
        refused(x, "putOff of one played", 8, 0, () -> x.putOff(1, 9));
        x.next();
        refused(x, "putOff of one played in a week before", 8, 0, () -> x.putOff(1, 1));
        refused(x, "putOff again behind the last", 10, 10, () -> x.putOff(0, 9));
        checks.due("putOff again without a clash", 0, () -> x.putOff(0, 1));
        checks.due("week again", 2, () -> x.meetingOf(0, 0));
        LeagueTables y = Ways.drawn(0, 1);
        checks.due("putOff to the last week", 0, () -> y.putOff(0, 1));
        y.next();
        y.result(1, 0, 0);
        refused(y, "putOff in the last week", 10, 2, () -> y.putOff(0, 1));
    }

    private static void next() {
        LeagueTables x = Ways.teams(0, 1, 2, 3);
        refused(x, "next, not drawn", 5, 0, x::next);
        x.draw();
        refused(x, "next, none played", 11, 0, x::next);
        x.result(0, 1, 0);
        refused(x, "next, one played", 11, 1, x::next);
        x.putOff(1, 5);
        for (int week = 1; week < 6; week++) {
            int due = week;
            checks.due("next", due, x::next);
            if (week < 5) {
                Ways.playWeek(x, 1, 1);
            }
        }
        refused(x, "next, the one put off", 11, 1, x::next);
        Ways.playWeek(x, 1, 1);
        refused(x, "next, the last week", 14, 5, x::next);
        checks.due("present week", 5, () -> x.account(3));
    }

    // ---- Promises 11 to 18

    // Four teams, the first week 0:3 of 3 to 1 and 2 to 2.
    private static LeagueTables someWeeks() {
        LeagueTables x = Ways.drawn(7, 1, 2, 3);
        x.result(0, 3, 1);
        x.result(1, 2, 2);
        x.next();
        x.result(2, 0, 4);
        x.result(3, 1, 0);
        x.next();
        return x;
    }

    private static void numbers(String call, int[] due, Checks.Call[] made) {
        for (int i = 0; i < due.length; i++) {
            checks.due(call + ", " + i, due[i], made[i]);
        }
    }

    private static void teamOf() {
        LeagueTables x = someWeeks();
        int[][] due = {
            {7, 3, 1, 0, 1, 3, 5, 0, 4},
            {1, 1, 0, 1, 1, 2, 3, 2, 4},
            {2, 4, 1, 1, 0, 6, 2, 4, 4},
            {3, 3, 1, 0, 1, 2, 3, 1, 4}};
        for (int t = 0; t < 4; t++) {
            Checks.Call[] made = new Checks.Call[9];
            for (int what = 0; what < 9; what++) {
                int team = t;
                int number = what;
                made[what] = () -> x.teamOf(team, number);
            }
            numbers("teamOf " + t, due[t], made);
        }
        checks.fails("no team 4", INDEX, () -> x.teamOf(4, 0));
        checks.fails("no team -1", INDEX, () -> x.teamOf(-1, 9));
        checks.fails("teamOf, what 9", ARGUMENT, () -> x.teamOf(3, 9));
        checks.fails("teamOf, what -1", ARGUMENT, () -> x.teamOf(0, -1));
        checks.due("not drawn, none to play", 0, () -> Ways.teams(0, 0).teamOf(1, 8));
    }

    private static void pointsAgain() {
        LeagueTables x = someWeeks();
        int[] due = {3, 1, 4, 3};
        for (int t = 0; t < 4; t++) {
            int team = t;
            checks.due("pointsAgain " + t, due[t], () -> x.pointsAgain(team));
        }
        checks.fails("pointsAgain, no team 4", INDEX, () -> x.pointsAgain(4));
        checks.fails("pointsAgain, no team -1", INDEX, () -> x.pointsAgain(-1));
        LeagueTables y = Ways.teams(0, 1);
        y.give(1, 3);
        y.draw();
        y.result(0, 1, 1);
        y.next();
        y.result(1, 1, 0);
        checks.due("pointsAgain as given", 4, () -> y.pointsAgain(1));
        checks.due("pointsAgain of the loser", 3, () -> y.pointsAgain(0));
    }

    private static void meetingOf() {
        LeagueTables x = Ways.drawn(0, 1, 2, 3);
        x.result(0, 4, 2);
        x.putOff(1, 3);
        int[][] due = {{0, 0, 3, 1, 4, 2, 0}, {3, 2, 1, 2, -1, -1, 0}, {1, 0, 2, 0, -1, -1, 1}};
        for (int m = 0; m < due.length; m++) {
            for (int w = 0; w < 7; w++) {
                int meeting = m;
                int what = w;
                checks.due("meetingOf " + m + " " + w, due[m][w], () -> x.meetingOf(meeting, what));
            }
        }
        checks.due("the last meeting", 5, () -> x.meetingOf(11, 0));
        checks.fails("no meeting 12", INDEX, () -> x.meetingOf(12, 0));
        checks.fails("no meeting -1", INDEX, () -> x.meetingOf(-1, 7));
        checks.fails("meetingOf, what 7", ARGUMENT, () -> x.meetingOf(0, 7));
        checks.fails("meetingOf, what -1", ARGUMENT, () -> x.meetingOf(0, -1));
        checks.fails("not drawn, no meeting", INDEX, () -> Ways.teams(0, 1).meetingOf(0, 0));
    }

    private static void find() {
        LeagueTables x = Ways.teams(0, 1, 2, 3);
        checks.fails("find, not drawn", NONE, () -> x.find(0, 1));
        checks.fails("find, not drawn, no team", INDEX, () -> x.find(0, 4));
        x.draw();
        checks.due("find 0 3", 0, () -> x.find(0, 3));
        checks.due("find 1 2", 6, () -> x.find(1, 2));
        checks.due("find 3 0", 7, () -> x.find(3, 0));
        for (int m = 0; m < 12; m++) {
            int meeting = m;
            checks.due("find what meetingOf tells", m, () -> x.find(x.meetingOf(meeting, 1), x.meetingOf(meeting, 2)));
        }
        checks.fails("find, the same team", NONE, () -> x.find(2, 2));
        checks.fails("find, no home", INDEX, () -> x.find(4, 0));
        checks.fails("find, no away", INDEX, () -> x.find(0, -1));
        checks.fails("find, the same that is none", INDEX, () -> x.find(5, 5));
    }

    private static void byeIn() {
        LeagueTables x = Ways.drawn(0, 1, 2, 3, 4);
        for (int w = 0; w < 10; w++) {
            int week = w;
            checks.due("bye in " + w, w % 5, () -> x.byeIn(week));
        }
        checks.fails("bye in 10", INDEX, () -> x.byeIn(10));
        checks.fails("bye in -1", INDEX, () -> x.byeIn(-1));
        LeagueTables y = Ways.teams(0, 1, 2, 3);
        checks.fails("bye, not drawn", INDEX, () -> y.byeIn(0));
        y.draw();
        checks.fails("no bye of 4", NONE, () -> y.byeIn(0));
        checks.fails("no bye of 4, last week", NONE, () -> y.byeIn(5));
        checks.fails("no bye of 4, no week", INDEX, () -> y.byeIn(6));
        x.putOff(0, 3);
        checks.due("a bye stays where it was drawn", 3, () -> x.byeIn(3));
        checks.due("the last bye of seven", 6, () -> Ways.drawn(new int[7]).byeIn(13));
    }

    private static void meetingsIn() {
        LeagueTables x = Ways.teams(0, 1, 2, 3);
        checks.fails("meetingsIn, not drawn", INDEX, () -> x.meetingsIn(0));
        x.draw();
        checks.due("meetingsIn 5", 2, () -> x.meetingsIn(5));
        x.putOff(1, 5);
        checks.due("meetingsIn 0", 1, () -> x.meetingsIn(0));
        checks.due("meetingsIn 5 then", 3, () -> x.meetingsIn(5));
        x.result(0, 1, 1);
        checks.due("a played one belongs to it, too", 1, () -> x.meetingsIn(0));
        checks.fails("meetingsIn 6", INDEX, () -> x.meetingsIn(6));
        checks.fails("meetingsIn -1", INDEX, () -> x.meetingsIn(-1));
    }

    private static void clashes() {
        LeagueTables x = Ways.teams(0, 0, 0, 0);
        checks.fails("clashes, not drawn", INDEX, () -> x.clashes(0));
        x.draw();
        checks.due("clashes of two", 1, () -> x.clashes(0));
        x.putOff(0, 1);
        checks.due("clashes of one", 0, () -> x.clashes(0));
        checks.due("clashes of three", 3, () -> x.clashes(1));
        x.putOff(1, 1);
        checks.due("clashes of four", 6, () -> x.clashes(1));
        checks.fails("clashes 6", INDEX, () -> x.clashes(6));
        checks.fails("clashes -1", INDEX, () -> x.clashes(-1));
        LeagueTables y = Ways.drawn(1, 2, 3, 4);
        checks.due("no clash", 0, () -> y.clashes(0));
        y.ground(2, 1);
        checks.due("a clash by a new ground", 1, () -> y.clashes(0));
        y.result(0, 1, 0);
        checks.due("a clash with a played one", 1, () -> y.clashes(0));
        y.ground(2, 4);
        checks.due("the ground of the team away does not count", 0, () -> y.clashes(0));
        // The team 0 is at home in the week 1, too.
        LeagueTables z = Ways.drawn(1, 2, 3, 4);
        z.putOff(0, 1);
        checks.due("the same team at home", 1, () -> z.clashes(1));
    }

    private static void freeWeek() {
        LeagueTables x = Ways.drawn(0, 1, 2, 3);
        // The team 0 is at home in the weeks 0, 1 and 5.
        checks.due("free week", 2, () -> x.freeWeek(0));
        x.putOff(0, 1);
        checks.due("free week behind its own", 2, () -> x.freeWeek(0));
        checks.fails("free week of the last", NONE, () -> x.freeWeek(11));
        checks.fails("free week, no meeting", INDEX, () -> x.freeWeek(12));
        checks.fails("free week, no meeting -1", INDEX, () -> x.freeWeek(-1));
        checks.fails("free week, not drawn", INDEX, () -> Ways.teams(0, 1).freeWeek(0));
        checks.fails("free week, one ground", NONE, () -> Ways.drawn(0, 0, 0).freeWeek(0));
        LeagueTables y = Ways.drawn(0, 1);
        checks.due("free week of two", 1, () -> y.freeWeek(0));
        y.result(0, 1, 1);
        checks.due("free week of one played", 1, () -> y.freeWeek(0));
        y.ground(1, 0);
        checks.fails("none by a new ground", NONE, () -> y.freeWeek(0));
    }

    // ---- Promises 19 to 26

    private static void table(String call, LeagueTables x, int... due) {
        for (int p = 0; p < due.length; p++) {
            int place = p;
            checks.due(call + ": place " + p, due[p], () -> x.ranked(place));
            checks.due(call + ": place of " + due[p], p, () -> x.placeOf(due[place]));
        }
    }

    private static void ranked() {
        LeagueTables x = someWeeks();
        table("points and rule 0", x, 2, 3, 0, 1);
        checks.fails("no place 4", NONE, () -> x.ranked(4));
        checks.fails("no place -1", NONE, () -> x.ranked(-1));
        x.rules(1, -1, -1);
        table("by rule 1", x, 2, 0, 3, 1);
        x.rules(2, 4, -1);
        table("by rules 2 and 4", x, 2, 3, 0, 1);
        x.rules(-1, -1, 2);
        table("by rule 2, then numbers", x, 2, 0, 3, 1);
        x.rules(3, 0, 1);
        table("by rule 3", x, 2, 0, 3, 1);
        x.rules(-1, -1, -1);
        table("without rules", x, 2, 0, 3, 1);
        table("not drawn", Ways.teams(0, 0, 0), 0, 1, 2);
        LeagueTables y = Ways.drawn(0, 1, 2, 3);
        y.result(0, 1, 1);
        y.result(1, 2, 2);
        table("rule 1 behind rule 0", y, 1, 2, 0, 3);
    }

    private static void placeOf() {
        LeagueTables x = someWeeks();
        checks.due("place of 1", 3, () -> x.placeOf(1));
        checks.due("place of 2", 0, () -> x.placeOf(2));
        checks.fails("placeOf, no team 4", INDEX, () -> x.placeOf(4));
        checks.fails("placeOf, no team -1", INDEX, () -> x.placeOf(-1));
        checks.fails("placeOf, no team", INDEX, () -> new LeagueTables().placeOf(0));
    }

    private static void valueOf() {
        LeagueTables x = someWeeks();
        int[][] due = {{-2, 3, 1, 3, 0}, {-1, 2, 0, 0, 2}, {4, 6, 1, 0, 4}, {-1, 2, 1, 0, 1}};
        for (int t = 0; t < 4; t++) {
            for (int r = 0; r < 5; r++) {
                int team = t;
                int rule = r;
                checks.due("valueOf " + t + " " + r, due[t][r], () -> x.valueOf(team, rule));
            }
        }
        checks.fails("valueOf, no team 4", INDEX, () -> x.valueOf(4, 5));
        checks.fails("valueOf, no team -1", INDEX, () -> x.valueOf(-1, 0));
        checks.fails("valueOf, rule 5", ARGUMENT, () -> x.valueOf(0, 5));
        checks.fails("valueOf, rule -1", ARGUMENT, () -> x.valueOf(0, -1));
        valueAmongThree();
    }

    // Rule 3 is of all with the same points, also where a rule ahead of it tells them apart.
    private static void valueAmongThree() {
        LeagueTables x = Ways.teams(0, 1, 2);
        x.rules(0, 3, -1);
        x.draw();
        for (int week = 0; week < 6; week++) {
            for (int m = 0; m < 6; m++) {
                if (x.meetingOf(m, 0) == week) {
                    x.result(m, 5 - 2 * x.meetingOf(m, 1), 5 - 2 * x.meetingOf(m, 1));
                }
            }
            if (week < 5) {
                x.next();
            }
        }
        checks.due("among three", 4, () -> x.valueOf(0, 3));
        checks.due("among three", 4, () -> x.valueOf(2, 3));
        x.back(x.find(x.meetingOf(5, 1), x.meetingOf(5, 2)));
        int home = x.meetingOf(5, 1);
        int away = x.meetingOf(5, 2);
        int third = 3 - home - away;
        checks.due("among two", 1, () -> x.valueOf(home, 3));
        checks.due("alone", 0, () -> x.valueOf(third, 3));
    }

    private static void tied() {
        LeagueTables x = someWeeks();
        int[] due = {9, 2, 4, 9};
        for (int t = 0; t < 4; t++) {
            int team = t;
            checks.due("tied " + t, due[t], () -> x.tied(team));
        }
        checks.fails("tied, no team 4", INDEX, () -> x.tied(4));
        checks.fails("tied, no team -1", INDEX, () -> x.tied(-1));
        checks.due("tied, all", 255, () -> Ways.teams(0, 0, 0, 0, 0, 0, 0, 0).tied(7));
        checks.due("tied, itself", 1, () -> Ways.teams(0).tied(0));
    }

    private static void most() {
        LeagueTables x = someWeeks();
        int[] due = {15, 13, 16, 15};
        for (int t = 0; t < 4; t++) {
            int team = t;
            checks.due("most " + t, due[t], () -> x.most(team));
        }
        checks.fails("most, no team 4", INDEX, () -> x.most(4));
        checks.fails("most, no team -1", INDEX, () -> x.most(-1));
        checks.due("most, not drawn", 0, () -> Ways.teams(0, 1).most(1));
        LeagueTables y = Ways.teams(0, 1);
        y.give(1, 3);
        y.draw();
        checks.due("most by wins", 2, () -> y.most(0));
        y.putOff(0, 1);
        checks.due("most with one put off", 2, () -> y.most(0));
    }

    private static void isSafe() {
        LeagueTables x = Ways.drawn(0, 1);
        checks.due("not safe at first", 0, () -> Ways.bool(x.isSafe(0)));
        x.result(0, 1, 0);
        checks.due("not safe if another can have as many", 0, () -> Ways.bool(x.isSafe(0)));
        x.next();
        x.result(1, 1, 1);
        checks.due("safe", 1, () -> Ways.bool(x.isSafe(0)));
        checks.due("the other is not", 0, () -> Ways.bool(x.isSafe(1)));
        checks.fails("isSafe, no team 2", INDEX, () -> Ways.bool(x.isSafe(2)));
        checks.fails("isSafe, no team -1", INDEX, () -> Ways.bool(x.isSafe(-1)));
        checks.due("safe without others", 1, () -> Ways.bool(Ways.teams(0).isSafe(0)));
        LeagueTables y = Ways.teams(0, 1);
        y.give(2, 3);
        y.draw();
        y.result(0, 1, 0);
        checks.due("another can have more by a draw", 0, () -> Ways.bool(y.isSafe(0)));
    }

    private static void isOut() {
        LeagueTables x = Ways.drawn(0, 1);
        checks.due("not out at first", 0, () -> Ways.bool(x.isOut(0)));
        x.result(0, 1, 0);
        checks.due("not out with as many", 0, () -> Ways.bool(x.isOut(1)));
        x.next();
        x.result(1, 1, 1);
        checks.due("out", 1, () -> Ways.bool(x.isOut(1)));
        checks.due("the other is not out", 0, () -> Ways.bool(x.isOut(0)));
        checks.fails("isOut, no team 2", INDEX, () -> Ways.bool(x.isOut(2)));
        checks.fails("isOut, no team -1", INDEX, () -> Ways.bool(x.isOut(-1)));
        checks.due("not out without others", 0, () -> Ways.bool(Ways.teams(0).isOut(0)));
        LeagueTables y = Ways.teams(0, 1);
        y.give(1, 0);
        y.draw();
        y.result(0, 1, 0);
        y.next();
        checks.due("not out while it can have as many", 0, () -> Ways.bool(y.isOut(1)));
        y.result(1, 1, 1);
        checks.due("out then", 1, () -> Ways.bool(y.isOut(1)));
        LeagueTables w = Ways.drawn(0, 1);
        w.result(0, 0, 1);
        w.next();
        w.result(1, 1, 0);
        checks.due("out by a team with a higher number", 1, () -> Ways.bool(w.isOut(0)));
        checks.due("safe with a higher number", 1, () -> Ways.bool(w.isSafe(1)));
        LeagueTables z = Ways.teams(0, 1, 2);
        z.give(1, 3);
        z.draw();
        z.result(0, 1, 1);
        z.next();
        z.result(1, 1, 1);
        z.next();
        z.result(2, 1, 0);
        int low = z.meetingOf(2, 2);
        checks.due("not out while a draw can help", 0, () -> Ways.bool(z.isOut(low)));
    }

    private static void run() {
        LeagueTables x = Ways.drawn(0, 1);
        checks.due("run of none", 0, () -> x.run(0));
        x.result(0, 1, 1);
        checks.due("run of a draw", 1, () -> x.run(1));
        x.next();
        x.result(1, 0, 2);
        checks.due("run with a win away", 2, () -> x.run(0));
        checks.due("run ended", 1, () -> x.run(1));
        checks.fails("run, no team 2", INDEX, () -> x.run(2));
        checks.fails("run, no team -1", INDEX, () -> x.run(-1));
        checks.due("run, not drawn", 0, () -> Ways.teams(0).run(0));
        // The numbers tell the order: the meeting 1 comes first, though it is played last.
        LeagueTables y = Ways.drawn(0, 1, 2, 3);
        int team = y.meetingOf(1, 1);
        y.putOff(1, 2);
        y.result(0, 0, 0);
        y.next();
        for (int m = 2; m < 4; m++) {
            y.result(m, Ways.bool(y.meetingOf(m, 1) == team), Ways.bool(y.meetingOf(m, 2) == team));
        }
        y.next();
        for (int m = 4; m < 6; m++) {
            y.result(m, Ways.bool(y.meetingOf(m, 2) == team), Ways.bool(y.meetingOf(m, 1) == team));
        }
        checks.due("run over one not played", 1, () -> y.run(team));
        y.result(1, 3, 0);
        checks.due("run in the order of numbers", 2, () -> y.run(team));
        LeagueTables z = Ways.drawn(0, 1, 2);
        for (int week = 0; week < 6; week++) {
            int m = week;
            z.result(m, 1, 0);
            if (week < 5) {
                z.next();
            }
        }
        for (int t = 0; t < 3; t++) {
            int one = t;
            checks.due("run of wins at home alone, " + t, homeRun(z, t), () -> z.run(one));
        }
    }

    private static int homeRun(LeagueTables x, int team) {
        int longest = 0;
        int length = 0;
        for (int m = 0; m < x.account(4); m++) {
            if (x.meetingOf(m, 1) == team) {
                length++;
            } else if (x.meetingOf(m, 2) == team) {
                length = 0;
            }
            longest = Math.max(longest, length);
        }
        return longest;
    }

    // ---- Promises 27 to 30

    private static void append() {
        LeagueTables x = new LeagueTables();
        for (int i = 1; i <= 60; i++) {
            int due = i;
            checks.due("append", due, () -> x.append((char) 300));
        }
        checks.fails("append to a full buffer", STATE, () -> x.append('n'));
        checks.due("buffer", 60, () -> x.account(14));
        checks.fails("commands of it", ARGUMENT, x::commands);
        checks.due("empty buffer", 0, () -> x.account(14));
        checks.due("append anew", 1, () -> x.append('n'));
    }

    private static void commands() {
        LeagueTables x = Ways.drawn(0, 1, 2, 3);
        Ways.write(x, "m0=2:0;m01=1:20;n;t34;o2+1");
        checks.due("five commands", 5, x::commands);
        checks.due("one change", 6, () -> x.account(13));
        checks.due("buffer is empty", 0, () -> x.account(14));
        checks.due("result told", 20, () -> x.meetingOf(1, 5));
        checks.due("next week", 1, () -> x.account(3));
        checks.due("put off", 2, () -> x.meetingOf(2, 0));
        checks.due("rules", 2, () -> x.account(9));
        Ways.write(x, "m3=1:1;b3");
        checks.due("back", 2, x::commands);
        checks.due("taken back", 0, () -> x.meetingOf(3, 3));
        Ways.write(x, "t");
        checks.due("no rules", 1, x::commands);
        checks.due("no rules then", 0, () -> x.account(9));
        Ways.write(x, "t4;m3=0:0;n;b3");
        checks.fails("refused", REFUSED, x::commands);
        numbers("reason of the command", new int[] {7, 1, 3},
            new Checks.Call[] {() -> x.reason(0), () -> x.reason(1), () -> x.reason(2)});
        checks.due("none is carried out: rules", 0, () -> x.account(9));
        checks.due("none is carried out: result", 0, () -> x.meetingOf(3, 3));
        checks.due("none is carried out: week", 1, () -> x.account(3));
        checks.due("no change", 8, () -> x.account(13));
        checks.due("buffer is empty when refused", 0, () -> x.account(14));
        checks.due("no fault when refused", -1, x::faultPosition);
        checks.fails("another call", REFUSED, () -> x.back(3));
        checks.due("index of another call", 0, () -> x.reason(2));
        checks.fails("empty text", ARGUMENT, x::commands);
        checks.due("fault of the empty text", 0, x::faultPosition);
        refusedCommands();
        undoneCommands();
    }

    private static void refusedCommand(String text, int reason, int detail, int index) {
        LeagueTables x = Ways.drawn(0, 1, 2, 3);
        Ways.write(x, text);
        checks.fails(text, REFUSED, x::commands);
        numbers(text, new int[] {reason, detail, index},
            new Checks.Call[] {() -> x.reason(0), () -> x.reason(1), () -> x.reason(2)});
        checks.due(text + ": changes", 5, () -> x.account(13));
    }

    private static void refusedCommands() {
        refusedCommand("m12=0:0", 3, 12, 0);
        refusedCommand("t;m0=21:0", 1, 0, 1);
        refusedCommand("m0=0:99", 1, 0, 0);
        refusedCommand("m0=0:0;m0=0:0", 8, 0, 1);
        refusedCommand("b0", 9, 0, 0);
        refusedCommand("o0+1;b0", 9, 2, 1);
        refusedCommand("o0+0", 1, 0, 0);
        refusedCommand("o0+10", 1, 0, 0);
        refusedCommand("o0+09", 10, 9, 0);
        refusedCommand("m0=1:1;n", 11, 1, 1);
        refusedCommand("t012;t343", 13, 3, 1);
        refusedCommand("m02=1:1", 7, 1, 0);
        LeagueTables x = Ways.teams(0, 1);
        Ways.write(x, "t;n");
        checks.fails("commands, not drawn", REFUSED, x::commands);
        checks.due("commands, not drawn: reason", 5, () -> x.reason(0));
        checks.due("commands, not drawn: index", 1, () -> x.reason(2));
    }

    private static void undoneCommands() {
        LeagueTables x = Ways.drawn(0, 1);
        for (int i = 0; i < 9; i++) {
            x.ground(0, i);
        }
        Ways.write(x, "m0=1:0;b5");
        checks.fails("refused with a full history", REFUSED, x::commands);
        for (int i = 7; i >= 0; i--) {
            int due = i;
            checks.due("undo behind refused commands", due, x::undo);
            checks.due("ground behind refused commands", due, () -> x.teamOf(0, 0));
        }
        Ways.write(x, "m0=1:0;n");
        x.commands();
        checks.due("undo of commands", 0, x::undo);
        checks.due("all commands are undone", 0, () -> x.account(3) + x.account(5));
    }

    private static void fault(String text, int due) {
        LeagueTables x = Ways.drawn(0, 1, 2, 3);
        Ways.write(x, text);
        checks.fails(text, ARGUMENT, x::commands);
        checks.due(text + ": fault", due, x::faultPosition);
        checks.due(text + ": buffer", 0, () -> x.account(14));
        checks.fails(text + ": no reason", NONE, () -> x.reason(0));
    }

    private static void faultPosition() {
        fault("", 0);
        fault("x", 0);
        fault(";", 0);
        fault("n;", 2);
        fault("nn", 1);
        fault("n n", 1);
        fault("m", 1);
        fault("m=", 1);
        fault("m1", 2);
        fault("m123=1:1", 3);
        fault("m1:", 2);
        fault("m1=", 3);
        fault("m1=1", 4);
        fault("m1=123", 5);
        fault("m1=1=", 4);
        fault("m1=1:", 5);
        fault("m1=1:;", 5);
        fault("m1=1:123", 7);
        fault("m-1=1:1", 1);
        fault("m:", 1);
        fault("m1=:1", 3);
        fault("m/", 1);
        fault("n\0", 1);
        fault("n\u00ff", 1);
        fault("b", 1);
        fault("b123", 3);
        fault("b1=", 2);
        fault("o1", 2);
        fault("o1=", 2);
        fault("o1+", 3);
        fault("o1+123", 5);
        fault("t5", 1);
        fault("t0123", 4);
        fault("t01;;", 4);
        fault("t0,", 2);
        fault("N", 0);
        fault("n;n;n;n;n;n;n;n;n;n;n;n;n;n;n;n;n;n;n;n;n;n;n;n;n;n;n;n;n;n;", 60);
        LeagueTables x = Ways.drawn(0, 1);
        Ways.write(x, "q");
        checks.fails("q", ARGUMENT, x::commands);
        checks.due("fault 0", 0, x::faultPosition);
        checks.fails("a refused call", REFUSED, x::next);
        checks.due("the fault stays", 0, x::faultPosition);
        Ways.write(x, "m0=0:0");
        x.commands();
        checks.due("no fault", -1, x::faultPosition);
        Ways.write(x, "t;t;t;t;t;t;t;t;t;t;t;t;t;t;t;t;t;t;t;t;t;t;t;t;t;t;t;t;t;t4");
        checks.due("thirty commands", 30, x::commands);
    }

    private static void reason() {
        LeagueTables x = new LeagueTables();
        checks.fails("reason 3", ARGUMENT, () -> x.reason(3));
        checks.fails("reason -1", ARGUMENT, () -> x.reason(-1));
        checks.fails("no reason", NONE, () -> x.reason(2));
        checks.fails("a refused call", REFUSED, () -> x.ground(5, 0));
        checks.due("reason", 3, () -> x.reason(0));
        checks.due("detail", 5, () -> x.reason(1));
        x.team(0);
        checks.due("the reason stays", 3, () -> x.reason(0));
        x.undo();
        checks.due("the reason stays behind undo", 3, () -> x.reason(0));
        x.save();
        x.restore();
        checks.due("the reason stays behind restore", 5, () -> x.reason(1));
        checks.fails("reason 3 again", ARGUMENT, () -> x.reason(3));
    }

    // ---- Promises 31 to 35

    private static void text(String call, String due, LeagueTables x, int team) {
        checks.note(call, Ways.lineOf(x, team), due);
        checks.due(call + ": length", due.length(), () -> x.line(team));
    }

    private static void line() {
        LeagueTables x = someWeeks();
        text("line 0", "0:3 1-0-1 3:5", x, 0);
        text("line 2", "2:4 1-1-0 6:2", x, 2);
        checks.fails("line, no team 4", INDEX, () -> x.line(4));
        checks.fails("line, no team -1", INDEX, () -> x.line(-1));
        checks.due("the line stays", '2', () -> x.character(0));
        LeagueTables y = Ways.drawn(0, 1);
        y.result(0, 20, 10);
        y.next();
        y.result(1, 0, 20);
        text("a safe line", "0:6 2-0-0 40:10*", y, 0);
        text("a line that is out", "1:0 0-0-2 10:40x", y, 1);
        text("a line without others", "0:0 0-0-0 0:0*", Ways.teams(0), 0);
        text("a line, not drawn", "1:0 0-0-0 0:0", Ways.teams(0, 0), 1);
    }

    private static void character() {
        LeagueTables x = Ways.drawn(0, 1);
        checks.fails("empty line", INDEX, () -> x.character(0));
        int length = x.line(1);
        checks.due("first", '1', () -> x.character(0));
        checks.due("second", ':', () -> x.character(1));
        checks.due("last", '0', () -> x.character(length - 1));
        checks.fails("behind the last", INDEX, () -> x.character(length));
        checks.fails("before the first", INDEX, () -> x.character(-1));
        x.result(0, 1, 0);
        checks.due("the line stays as it was written", '0', () -> x.character(2));
        x.undo();
        x.undo();
        checks.due("the line stays behind undo", '1', () -> x.character(0));
    }

    private static void meanGoals() {
        LeagueTables x = Ways.drawn(0, 1, 2);
        checks.fails("mean of none", ARITHMETIC, x::meanGoals);
        x.result(0, 2, 2);
        checks.due("mean", 4.0f, x::meanGoals);
        x.next();
        x.result(1, 0, 3);
        x.next();
        x.result(2, 1, 2);
        checks.due("mean of three", 10.0f / 3.0f, x::meanGoals);
        checks.fails("mean, not drawn", ARITHMETIC, () -> new LeagueTables().meanGoals());
    }

    private static void homeShare() {
        LeagueTables x = Ways.drawn(0, 1, 2);
        checks.fails("share of none", ARITHMETIC, x::homeShare);
        x.result(0, 2, 2);
        checks.due("share of a draw", 0.0, x::homeShare);
        x.next();
        x.result(1, 3, 0);
        checks.due("a half", 0.5, x::homeShare);
        x.next();
        x.result(2, 1, 2);
        checks.due("a third", 1.0 / 3.0, x::homeShare);
        checks.fails("share, not drawn", ARITHMETIC, () -> new LeagueTables().homeShare());
    }

    private static void account() {
        LeagueTables x = Ways.drawn(5, 5, 5, 6);
        x.rules(1, 2, 3);
        x.result(0, 3, 2);
        x.putOff(1, 2);
        x.next();
        x.result(2, 1, 1);
        Ways.write(x, "n;");
        int[] due = {4, 1, 6, 1, 12, 2, 1, 3, 1, 3, 7, 5, 0, 8, 2};
        for (int what = 0; what < due.length; what++) {
            int at = what;
            if (what == 12) {
                checks.due("account 12", allClashes(x), () -> x.account(12));
            } else {
                checks.due("account " + what, due[what], () -> x.account(at));
            }
        }
        checks.yes("some clashes", x.account(12) > 0);
        checks.due("clashes of the first week, too", 6, () -> Ways.drawn(0, 0, 0, 0).account(12));
        checks.fails("account 15", ARGUMENT, () -> x.account(15));
        checks.fails("account -1", ARGUMENT, () -> x.account(-1));
        LeagueTables y = Ways.drawn(0, 1);
        y.putOff(0, 1);
        checks.due("one put off", 1, () -> y.account(6));
        y.next();
        y.result(0, 1, 1);
        checks.due("none put off", 0, () -> y.account(6));
    }

    private static int allClashes(LeagueTables x) {
        int sum = 0;
        for (int week = 0; week < x.account(2); week++) {
            sum += x.clashes(week);
        }
        return sum;
    }

    // ---- Promises 36 to 38

    private static void undo() {
        LeagueTables x = Ways.teams(1, 2, 3);
        x.draw();
        x.give(2, 0);
        x.rules(4, -1, -1);
        x.result(0, 3, 0);
        x.back(0);
        x.putOff(0, 2);
        x.next();
        x.ground(0, 9);
        checks.due("changes", 8, () -> x.account(13));
        checks.due("undo ground", 7, x::undo);
        checks.due("ground", 1, () -> x.teamOf(0, 0));
        checks.due("undo next", 6, x::undo);
        checks.due("week", 0, () -> x.account(3));
        checks.due("undo putOff", 5, x::undo);
        checks.due("meeting", 0, () -> x.meetingOf(0, 3) + x.meetingOf(0, 0));
        checks.due("undo back", 4, x::undo);
        checks.due("goals", 3, () -> x.meetingOf(0, 4));
        checks.due("undo result", 3, x::undo);
        checks.due("played", 0, () -> x.account(5));
        checks.due("undo rules", 2, x::undo);
        checks.due("rules", 2, () -> x.account(9));
        checks.due("undo give", 1, x::undo);
        checks.due("win", 3, () -> x.account(7));
        checks.due("undo draw", 0, x::undo);
        checks.due("drawn", 0, () -> x.account(1) + x.account(2) + x.account(4));
        checks.fails("undo of none", STATE, x::undo);
        checks.due("three teams", 3, () -> x.account(0));
        x.team(4);
        checks.due("drawn anew with four", 12, () -> x.draw() + x.account(4) - 6);
        checks.due("undo draw and team", 0, () -> x.undo() + x.undo() - 1);
        x.draw();
        checks.due("drawn anew with three", 6, () -> x.account(4));
        undoOfEachNumber();
        refusedIsNoChange();
    }

    private static void undoOfEachNumber() {
        LeagueTables x = Ways.teams(1, 2);
        x.give(2, 3);
        checks.due("undo give", 2, x::undo);
        checks.due("draw", 1, () -> x.account(8));
        x.draw();
        x.result(0, 2, 5);
        x.back(0);
        x.undo();
        checks.due("home goals again", 2, () -> x.meetingOf(0, 4));
        checks.due("away goals again", 5, () -> x.meetingOf(0, 5));
        LeagueTables y = someWeeks();
        y.rules(1, -1, -1);
        table("by other rules", y, 2, 0, 3, 1);
        y.undo();
        table("by the rules before", y, 2, 3, 0, 1);
    }

    private static void refusedIsNoChange() {
        LeagueTables x = Ways.teams(1);
        checks.fails("refused", REFUSED, x::draw);
        checks.fails("refused", REFUSED, () -> x.team(77));
        Ways.write(x, "m");
        checks.due("only the team can be undone", 1, () -> x.account(13));
        checks.due("undo team", 0, x::undo);
        checks.due("no team", 0, () -> x.account(0));
        checks.due("the buffer stays", 1, () -> x.account(14));
    }

    private static void saveAndRestore() {
        LeagueTables x = new LeagueTables();
        checks.fails("no snapshot", STATE, x::restore);
        checks.due("save", 0, x::save);
        x.team(1);
        x.team(2);
        checks.due("restore", 0, x::restore);
        checks.due("no change is left", 0, () -> x.account(13));
        checks.fails("no undo behind restore", STATE, x::undo);
        x.team(1);
        x.team(2);
        x.draw();
        x.result(0, 2, 1);
        checks.due("save two", 2, x::save);
        checks.due("save is no change", 4, () -> x.account(13));
        x.next();
        x.result(1, 2, 1);
        checks.due("restore two", 2, x::restore);
        checks.due("week", 0, () -> x.account(3));
        checks.due("played", 1, () -> x.account(5));
        x.back(0);
        x.undo();
        checks.due("undo to what was restored", 2, () -> x.meetingOf(0, 4));
        x.back(0);
        checks.due("the snapshot is kept", 2, x::restore);
        checks.due("goals again", 2, () -> x.meetingOf(0, 4));
        otherNumbersOfTeams();
    }

    // The draw of one number of teams must not be left where that of another comes back.
    private static void otherNumbersOfTeams() {
        LeagueTables x = Ways.drawn(0, 1, 2, 3, 4);
        x.save();
        for (int i = 0; i < 4; i++) {
            x.undo();
        }
        x.team(7);
        x.draw();
        checks.due("bye of three", 1, () -> x.byeIn(4) + x.account(0) - 3);
        checks.due("restore five", 5, x::restore);
        checks.due("meetings of five", 20, () -> x.account(4));
        checks.due("bye of five", 4, () -> x.byeIn(4));
    }
}
