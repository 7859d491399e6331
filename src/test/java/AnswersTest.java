import java.io.IOException;
import java.util.NoSuchElementException;

/** The promises of what can be asked of the league, sentence by sentence: 11 to 26 and 31 to 35. */
public final class AnswersTest {
    private static final Class<UnsupportedOperationException> REFUSED = UnsupportedOperationException.class;
    private static final Class<IndexOutOfBoundsException> INDEX = IndexOutOfBoundsException.class;
    private static final Class<IllegalArgumentException> ARGUMENT = IllegalArgumentException.class;
    private static final Class<NoSuchElementException> NONE = NoSuchElementException.class;
    private static final Class<ArithmeticException> ARITHMETIC = ArithmeticException.class;
    private static final int[] FAR = {Integer.MIN_VALUE, Integer.MAX_VALUE};
    private static final String NO_TEAM = "Throws `IndexOutOfBoundsException` if there is no such team";
    private static final String NO_WEEK = "Throws `IndexOutOfBoundsException` if there is no such week";
    private static final String NO_MEETING = "Throws `IndexOutOfBoundsException` if there is no such meeting";
    private static final Checks checks = new Checks("answers");

    /** A question about a team, a meeting or a week. */
    private interface Question {
        double answer(LeagueTables x, int number);
    }

    public static void main(String[] args) throws IOException {
        Sentences s = new Sentences(checks, args.length == 0 ? "." : args[0]);
        teamOf(s);
        pointsAgain(s);
        meetingOf(s);
        find(s);
        byeIn(s);
        meetingsIn(s);
        clashes(s);
        freeWeek(s);
        ranked(s);
        placeOf(s);
        valueOf(s);
        tied(s);
        most(s);
        isSafe(s);
        isOut(s);
        run(s);
        line(s);
        character(s);
        meanGoals(s);
        homeShare(s);
        account(s);
        s.end();
        checks.end();
    }

    // No team, from those beside the ones that there are to the farthest; also where there is none at all.
    private static void noTeam(Question question) {
        LeagueTables x = Ways.drawnOf(4);
        checks.fails("4 of four", INDEX, () -> question.answer(x, 4));
        checks.fails("-1", INDEX, () -> question.answer(x, -1));
        for (int wrong : FAR) {
            checks.fails("" + wrong, INDEX, () -> question.answer(x, wrong));
        }
        checks.fails("0 of none", INDEX, () -> question.answer(new LeagueTables(), 0));
        LeagueTables eight = Ways.drawnOf(8);
        checks.fails("8 of eight", INDEX, () -> question.answer(eight, 8));
        eight.undo();
        eight.undo();
        checks.fails("7, which is undone", INDEX, () -> question.answer(eight, 7));
    }

    private static void noMeeting(Question question) {
        LeagueTables x = Ways.drawnOf(4);
        checks.fails("12 of twelve", INDEX, () -> question.answer(x, 12));
        checks.fails("-1", INDEX, () -> question.answer(x, -1));
        for (int wrong : FAR) {
            checks.fails("" + wrong, INDEX, () -> question.answer(x, wrong));
        }
        checks.fails("56 of 56", INDEX, () -> question.answer(Ways.drawnOf(8), 56));
        x.undo();
        checks.fails("0, the drawing being undone", INDEX, () -> question.answer(x, 0));
        checks.fails("0, not drawn", INDEX, () -> question.answer(Ways.teams(0, 1), 0));
    }

    private static void noWeek(Question question) {
        LeagueTables x = Ways.drawnOf(5);
        checks.fails("10 of ten", INDEX, () -> question.answer(x, 10));
        checks.fails("-1", INDEX, () -> question.answer(x, -1));
        for (int wrong : FAR) {
            checks.fails("" + wrong, INDEX, () -> question.answer(x, wrong));
        }
        checks.fails("14 of fourteen", INDEX, () -> question.answer(Ways.drawnOf(7), 14));
        x.undo();
        checks.fails("0, the drawing being undone", INDEX, () -> question.answer(x, 0));
        checks.fails("0, not drawn", INDEX, () -> question.answer(Ways.teams(0, 1, 2), 0));
    }

    // Four teams, two weeks: 0 to 3 3:1, 2 to 1 2:2, 0 to 2 0:4, 3 to 1 1:0; the third week has come.
    private static LeagueTables someWeeks() {
        LeagueTables x = Ways.drawn(7, 1, 2, 3);
        Ways.tell(x, 3, 1, 2, 2, 0, 4, 1, 0);
        x.next();
        return x;
    }

    private static void each(String call, LeagueTables x, Question question, int... due) {
        for (int i = 0; i < due.length; i++) {
            int number = i;
            checks.due(call + " " + i, due[i], () -> question.answer(x, number));
        }
    }

    // ---- Promises 11 to 13

    private static void teamOf(Sentences s) {
        s.in("Promise 11");
        s.says("Returns a number of a team.", AnswersTest::numbersOfTeams);
        s.says("0 for its ground,", () -> teamNumber(0, 7, 1, 2, 3));
        s.says("1 for its points,", () -> teamNumber(1, 3, 1, 4, 3));
        s.says("2 for its wins,", () -> teamNumber(2, 1, 0, 1, 1));
        s.says("3 for its draws,", () -> teamNumber(3, 0, 1, 1, 0));
        s.says("4 for its losses,", () -> teamNumber(4, 1, 1, 0, 1));
        s.says("5 for the goals that it made,", () -> teamNumber(5, 3, 2, 6, 2));
        s.says("6 for those made against it,", () -> teamNumber(6, 5, 3, 2, 3));
        s.says("7 for those that it made away,", () -> teamNumber(7, 0, 2, 4, 1));
        s.says("8 for its meetings that are not played", () -> teamNumber(8, 4, 4, 4, 4));
        s.says("Returns the number.", AnswersTest::numbersOfTeams);
        s.says(NO_TEAM, () -> noTeam((x, team) -> x.teamOf(team, 0)));
        s.says("Throws `IllegalArgumentException` if what is not from 0 to 8", AnswersTest::noNumberOfATeam);
    }

    private static void teamNumber(int what, int... due) {
        each("team", someWeeks(), (x, team) -> x.teamOf(team, what), due);
        each("not drawn, team", Ways.teams(0, 0), (x, team) -> x.teamOf(team, what), 0, 0);
    }

    private static void numbersOfTeams() {
        LeagueTables x = Ways.drawn(0, 9);
        Ways.tell(x, 20, 0, 20, 20);
        each("the first", x, (y, what) -> y.teamOf(0, what), 0, 4, 1, 1, 0, 40, 20, 20, 0);
        each("the last", x, (y, what) -> y.teamOf(1, what), 9, 1, 0, 1, 1, 20, 40, 0, 0);
        x.back(1);
        each("one taken back", x, (y, what) -> y.teamOf(0, what), 0, 3, 1, 0, 0, 20, 0, 0, 1);
        // 0 to 7, then 7 to 4: a draw and a loss of the last of eight.
        LeagueTables eight = Ways.drawnOf(8);
        Ways.tell(eight, 1, 1, 0, 0, 0, 0, 0, 0);
        Ways.playTo(eight, 1, 0, 0);
        eight.result(eight.find(7, 1), 2, 3);
        each("the last of eight", eight, (y, what) -> y.teamOf(7, what), 7, 1, 0, 1, 1, 3, 4, 1, 12);
        LeagueTables odd = Ways.drawnOf(3);
        odd.putOff(0, 2);
        each("one put off is not played", odd, (y, team) -> y.teamOf(team, 8), 4, 4, 4);
    }

    private static void noNumberOfATeam() {
        LeagueTables x = Ways.drawnOf(2);
        checks.fails("9", ARGUMENT, () -> x.teamOf(1, 9));
        checks.fails("-1", ARGUMENT, () -> x.teamOf(0, -1));
        for (int wrong : FAR) {
            checks.fails("" + wrong, ARGUMENT, () -> x.teamOf(0, wrong));
        }
        checks.fails("9 of no team", INDEX, () -> x.teamOf(2, 9));
    }

    private static void pointsAgain(Sentences s) {
        s.in("Promise 12");
        s.says("Returns the points of a team by a second way: its wins and draws, times what each gives.",
            AnswersTest::pointsBySecondWay);
        s.says("Returns the points.", () -> each("team", someWeeks(), LeagueTables::pointsAgain, 3, 1, 4, 3));
        s.says(NO_TEAM, () -> noTeam(LeagueTables::pointsAgain));
    }

    private static void pointsBySecondWay() {
        each("not drawn", Ways.teams(0, 0), LeagueTables::pointsAgain, 0, 0);
        for (int win = 1; win <= 5; win += 4) {
            for (int draw = 0; draw <= 3; draw += 3) {
                LeagueTables x = Ways.teams(0, 1);
                x.give(win, draw);
                x.draw();
                Ways.tell(x, 1, 0, 2, 2);
                String call = "a win " + win + ", a draw " + draw;
                each(call, x, LeagueTables::pointsAgain, win + draw, draw);
                each(call + ", the first way", x, (y, team) -> y.teamOf(team, 1), win + draw, draw);
            }
        }
    }

    private static void meetingOf(Sentences s) {
        s.in("Promise 13");
        s.says("Returns a number of a meeting.", AnswersTest::numbersOfMeetings);
        s.says("0 for the week to which it belongs,", () -> meetingNumber(0, 0, 3, 1));
        s.says("1 for the team at home,", () -> meetingNumber(1, 0, 2, 0));
        s.says("2 for that away,", () -> meetingNumber(2, 3, 1, 2));
        s.says("3 for how it is,", () -> meetingNumber(3, 1, 2, 0));
        s.says("4 for the goals at home,", () -> meetingNumber(4, 4, -1, -1));
        s.says("5 for those away,", () -> meetingNumber(5, 20, -1, -1));
        s.says("-1 each if it is not played,", AnswersTest::noGoals);
        s.says("6 for the week for which it was drawn", () -> meetingNumber(6, 0, 0, 1));
        s.says("Returns the number.", AnswersTest::numbersOfMeetings);
        s.says(NO_MEETING, () -> noMeeting((x, meeting) -> x.meetingOf(meeting, 0)));
        s.says("Throws `IllegalArgumentException` if what is not from 0 to 6", AnswersTest::noNumberOfAMeeting);
    }

    private static void meetingNumber(int what, int... due) {
        LeagueTables x = Ways.drawnOf(4);
        x.result(0, 4, 20);
        x.putOff(1, 3);
        each("meeting", x, (y, meeting) -> y.meetingOf(meeting, what), due);
    }

    private static void numbersOfMeetings() {
        LeagueTables x = Ways.drawnOf(8);
        each("the first", x, (y, what) -> y.meetingOf(0, what), 0, 0, 7, 0, -1, -1, 0);
        each("the last of 56", x, (y, what) -> y.meetingOf(55, what), 13, 7, 6, 0, -1, -1, 13);
        LeagueTables two = Ways.drawnOf(2);
        two.putOff(0, 1);
        two.next();
        two.result(0, 0, 1);
        each("played behind being put off", two, (y, what) -> y.meetingOf(0, what), 1, 0, 1, 1, 0, 1, 0);
    }

    private static void noGoals() {
        LeagueTables x = Ways.drawnOf(2);
        checks.due("open, at home", -1, () -> x.meetingOf(0, 4));
        checks.due("open, away", -1, () -> x.meetingOf(0, 5));
        x.result(0, 0, 0);
        checks.due("played without goals, at home", 0, () -> x.meetingOf(0, 4));
        checks.due("played without goals, away", 0, () -> x.meetingOf(0, 5));
        x.back(0);
        checks.due("taken back, at home", -1, () -> x.meetingOf(0, 4));
        checks.due("taken back, away", -1, () -> x.meetingOf(0, 5));
        x.putOff(0, 1);
        checks.due("put off, at home", -1, () -> x.meetingOf(0, 4));
        checks.due("put off, away", -1, () -> x.meetingOf(0, 5));
    }

    private static void noNumberOfAMeeting() {
        LeagueTables x = Ways.drawnOf(2);
        checks.fails("7", ARGUMENT, () -> x.meetingOf(1, 7));
        checks.fails("-1", ARGUMENT, () -> x.meetingOf(0, -1));
        for (int wrong : FAR) {
            checks.fails("" + wrong, ARGUMENT, () -> x.meetingOf(0, wrong));
        }
        checks.fails("7 of no meeting", INDEX, () -> x.meetingOf(2, 7));
    }

    // ---- Promises 14 to 18

    private static void find(Sentences s) {
        s.in("Promise 14");
        s.says("Returns the meeting of two teams.", AnswersTest::meetingOfTwo);
        s.says("Returns the meeting.", AnswersTest::meetingOfTwo);
        s.says(NO_TEAM, AnswersTest::findWithoutATeam);
        s.says("Throws `NoSuchElementException` if the league is not drawn,", AnswersTest::findNotDrawn);
        s.says("or it is the same team", AnswersTest::findTheSame);
    }

    private static void meetingOfTwo() {
        LeagueTables x = Ways.drawnOf(8);
        for (int m = 0; m < 56; m++) {
            int home = x.meetingOf(m, 1);
            int away = x.meetingOf(m, 2);
            checks.due(home + " at home to " + away, m, () -> x.find(home, away));
        }
        LeagueTables y = Ways.drawnOf(2);
        checks.due("the first", 0, () -> y.find(0, 1));
        checks.due("the other way round", 1, () -> y.find(1, 0));
        y.putOff(0, 1);
        checks.due("one put off", 0, () -> y.find(0, 1));
    }

    private static void findWithoutATeam() {
        noTeam((x, team) -> x.find(team, 0));
        noTeam((x, team) -> x.find(0, team));
        noTeam((x, team) -> x.find(team, team));
        checks.fails("not drawn", INDEX, () -> Ways.teams(0, 1).find(0, 2));
    }

    private static void findNotDrawn() {
        LeagueTables x = Ways.teams(0, 1);
        checks.fails("not drawn", NONE, () -> x.find(0, 1));
        checks.fails("not drawn, the same", NONE, () -> x.find(0, 0));
        x.draw();
        checks.due("drawn", 1, () -> x.find(1, 0));
        x.undo();
        checks.fails("the drawing being undone", NONE, () -> x.find(1, 0));
    }

    private static void findTheSame() {
        LeagueTables x = Ways.drawnOf(3);
        for (int t = 0; t < 3; t++) {
            int team = t;
            checks.fails("the team " + t, NONE, () -> x.find(team, team));
        }
    }

    private static void byeIn(Sentences s) {
        s.in("Promise 15");
        s.says("Returns the team that has a bye in a week.",
            () -> each("of five, week", Ways.drawnOf(5), LeagueTables::byeIn, 0, 1, 2, 3, 4, 0, 1, 2, 3, 4));
        s.says("Returns the team.",
            () -> each("of three, week", Ways.drawnOf(3), LeagueTables::byeIn, 0, 1, 2, 0, 1, 2));
        s.says(NO_WEEK, () -> noWeek(LeagueTables::byeIn));
        s.says("Throws `NoSuchElementException` if none has", AnswersTest::noBye);
    }

    private static void noBye() {
        for (int n = 2; n <= 8; n += 2) {
            LeagueTables x = Ways.drawnOf(n);
            int last = 2 * (n - 1) - 1;
            checks.fails(n + " teams, the first week", NONE, () -> x.byeIn(0));
            checks.fails(n + " teams, the last week", NONE, () -> x.byeIn(last));
            checks.fails(n + " teams, a week more", INDEX, () -> x.byeIn(last + 1));
        }
        LeagueTables y = Ways.drawnOf(3);
        y.undo();
        y.team(3);
        y.draw();
        checks.fails("four, where three were drawn before", NONE, () -> y.byeIn(0));
    }

    private static void meetingsIn(Sentences s) {
        s.in("Promise 16");
        s.says("Returns how many meetings belong to a week.", AnswersTest::meetingsOfWeeks);
        s.says("Returns how many.", () -> each("of seven, week", Ways.drawnOf(7), LeagueTables::meetingsIn,
            3, 3, 3, 3, 3, 3, 3, 3, 3, 3, 3, 3, 3, 3));
        s.says(NO_WEEK, () -> noWeek(LeagueTables::meetingsIn));
    }

    private static void meetingsOfWeeks() {
        LeagueTables x = Ways.drawnOf(4);
        each("week", x, LeagueTables::meetingsIn, 2, 2, 2, 2, 2, 2);
        x.putOff(1, 5);
        each("one put off, week", x, LeagueTables::meetingsIn, 1, 2, 2, 2, 2, 3);
        x.putOff(0, 1);
        each("two put off, week", x, LeagueTables::meetingsIn, 0, 3, 2, 2, 2, 3);
        Ways.playTo(x, 2, 1, 1);
        each("some played, week", x, LeagueTables::meetingsIn, 0, 3, 2, 2, 2, 3);
    }

    private static void clashes(Sentences s) {
        s.in("Promise 17");
        s.says("Returns how many pairs of meetings of a week clash.", AnswersTest::clashingPairs);
        s.says("Returns how many.", () -> each("of eight on a ground, week", Ways.drawn(new int[8]),
            LeagueTables::clashes, 6, 6, 6, 6, 6, 6, 6, 6, 6, 6, 6, 6, 6, 6));
        s.says(NO_WEEK, () -> noWeek(LeagueTables::clashes));
    }

    private static void clashingPairs() {
        each("two teams on a ground", Ways.drawn(3, 3), LeagueTables::clashes, 0, 0);
        each("four, each with its own", Ways.drawnOf(4), LeagueTables::clashes, 0, 0, 0, 0, 0, 0);
        LeagueTables x = Ways.drawn(3, 3, 3, 3);
        each("four on a ground", x, LeagueTables::clashes, 1, 1, 1, 1, 1, 1);
        x.putOff(0, 1);
        each("three of a week", x, LeagueTables::clashes, 0, 3, 1, 1, 1, 1);
        x.putOff(1, 1);
        each("four of a week", x, LeagueTables::clashes, 0, 6, 1, 1, 1, 1);
        // At home are 0 and 2; 0 and 3; 1 and 2; 1 and 3; 1 and 2; 0 and 3.
        LeagueTables y = Ways.drawn(1, 2, 1, 2);
        each("two grounds", y, LeagueTables::clashes, 1, 0, 0, 1, 0, 0);
        y.ground(2, 2);
        each("another ground", y, LeagueTables::clashes, 0, 0, 1, 1, 1, 0);
    }

    private static void freeWeek(Sentences s) {
        s.in("Promise 18");
        s.says("Returns the next week behind its own in which a meeting would not clash with any other one.",
            AnswersTest::nextFreeWeek);
        s.says("Returns the week.", AnswersTest::nextFreeWeek);
        s.says(NO_MEETING, () -> noMeeting(LeagueTables::freeWeek));
        s.says("Throws `NoSuchElementException` if there is none", AnswersTest::noFreeWeek);
    }

    private static void nextFreeWeek() {
        // The team 0 is at home in the weeks 0, 1 and 5, the team 2 in 0, 2 and 4.
        LeagueTables x = Ways.drawnOf(4);
        checks.due("0 at home", 2, () -> x.freeWeek(0));
        checks.due("2 at home", 1, () -> x.freeWeek(1));
        checks.due("0 at home in the week 1", 2, () -> x.freeWeek(2));
        x.putOff(0, 1);
        checks.due("behind its own, not that for which it was drawn", 2, () -> x.freeWeek(0));
        x.putOff(1, 3);
        checks.due("the week 2 is not free of 2", 5, () -> x.freeWeek(1));
        LeagueTables y = Ways.drawn(5, 6, 5, 7);
        checks.due("0 and 2 share a ground", 3, () -> y.freeWeek(0));
        LeagueTables z = Ways.drawnOf(2);
        checks.due("the last week", 1, () -> z.freeWeek(0));
        LeagueTables w = Ways.drawnOf(4);
        w.result(0, 1, 1);
        checks.due("of one that is played", 2, () -> w.freeWeek(0));
    }

    private static void noFreeWeek() {
        checks.fails("the last of two", NONE, () -> Ways.drawnOf(2).freeWeek(1));
        checks.fails("the last of eight", NONE, () -> Ways.drawnOf(8).freeWeek(55));
        checks.fails("all on a ground", NONE, () -> Ways.drawn(3, 3).freeWeek(0));
        LeagueTables x = Ways.drawnOf(4);
        x.putOff(0, 5);
        checks.fails("put off to the last week", NONE, () -> x.freeWeek(0));
    }

    // ---- Promises 19 to 22

    private static void ranked(Sentences s) {
        s.in("Promise 19");
        s.says("Returns the team at a place of the table.", AnswersTest::teamsOfTheTable);
        s.says("the place, from 0", () -> each("place", someWeeks(), LeagueTables::ranked, 2, 3, 0, 1));
        s.says("Returns the team.", AnswersTest::teamsOfTheTable);
        s.says("Throws `NoSuchElementException` if there is no such place", AnswersTest::noPlace);
    }

    private static void teamsOfTheTable() {
        each("not drawn", Ways.teams(0, 0, 0), LeagueTables::ranked, 0, 1, 2);
        LeagueTables x = Ways.drawnOf(8);
        Ways.tell(x, 1, 0, 0, 0, 0, 1, 0, 2);
        // The first week: 0 to 7, 2 to 5, 4 to 3, 6 to 1.
        each("eight", x, LeagueTables::ranked, 1, 0, 3, 2, 5, 4, 7, 6);
        x.back(3);
        each("one taken back", x, LeagueTables::ranked, 0, 3, 2, 5, 1, 6, 4, 7);
    }

    private static void noPlace() {
        LeagueTables x = Ways.drawnOf(4);
        checks.fails("4 of four", NONE, () -> x.ranked(4));
        checks.fails("-1", NONE, () -> x.ranked(-1));
        for (int wrong : FAR) {
            checks.fails("" + wrong, NONE, () -> x.ranked(wrong));
        }
        checks.fails("0 of none", NONE, () -> new LeagueTables().ranked(0));
        checks.fails("8 of eight", NONE, () -> Ways.drawnOf(8).ranked(8));
        x.undo();
        x.undo();
        checks.fails("3, which is undone", NONE, () -> x.ranked(3));
    }

    private static void placeOf(Sentences s) {
        s.in("Promise 20");
        s.says("Returns the place of a team by a second way: how many teams are ahead of it.",
            AnswersTest::teamsAhead);
        s.says("Returns the place, from 0.", () -> each("team", someWeeks(), LeagueTables::placeOf, 2, 3, 0, 1));
        s.says(NO_TEAM, () -> noTeam(LeagueTables::placeOf));
    }

    private static void teamsAhead() {
        each("a single team", Ways.teams(0), LeagueTables::placeOf, 0);
        each("not drawn", Ways.teams(0, 0, 0), LeagueTables::placeOf, 0, 1, 2);
        LeagueTables x = Ways.drawnOf(8);
        Ways.tell(x, 1, 0, 0, 0, 0, 1, 0, 2);
        each("eight", x, LeagueTables::placeOf, 1, 0, 3, 2, 5, 4, 7, 6);
        x.rules(-1, -1, -1);
        each("without rules", x, LeagueTables::placeOf, 0, 1, 3, 2, 5, 4, 6, 7);
    }

    private static void valueOf(Sentences s) {
        s.in("Promise 21");
        s.says("Returns what a team has by a rule.", AnswersTest::valuesByRules);
        s.says("the rule, 0 to 4", AnswersTest::rulesToFour);
        s.says("Returns what it has by it.", AnswersTest::valuesByRules);
        s.says(NO_TEAM, () -> noTeam((x, team) -> x.valueOf(team, 0)));
        s.says("Throws `IllegalArgumentException` if there is no such rule", AnswersTest::noRule);
    }

    private static void valuesByRules() {
        int[][] due = {{-2, -1, 4, -1}, {3, 2, 6, 2}, {1, 0, 1, 1}, {3, 0, 0, 0}, {0, 2, 4, 1}};
        for (int r = 0; r <= 4; r++) {
            int rule = r;
            each("rule " + r, someWeeks(), (x, team) -> x.valueOf(team, rule), due[r]);
            each("not drawn, rule " + r, Ways.teams(0, 0), (x, team) -> x.valueOf(team, rule), 0, 0);
        }
        LeagueTables x = someWeeks();
        x.rules(-1, -1, -1);
        each("whatever rules are set", x, (y, rule) -> y.valueOf(2, rule), 4, 6, 1, 0, 4);
        LeagueTables eight = Ways.drawnOf(8);
        Ways.tell(eight, 1, 1, 2, 2, 3, 3, 0, 0);
        each("the last of eight", eight, (y, rule) -> y.valueOf(7, rule), 0, 1, 0, 1, 1);
        LeagueTables y = Ways.teams(0, 1);
        y.give(1, 3);
        y.draw();
        Ways.tell(y, 2, 2, 1, 1);
        each("points as given among those with the same points", y, (z, team) -> z.valueOf(team, 3), 6, 6);
    }

    private static void rulesToFour() {
        LeagueTables x = Ways.drawnOf(2);
        Ways.tell(x, 3, 1, 2, 5);
        each("0", x, (y, rule) -> y.valueOf(0, rule), 5, 8, 2, 0, 5);
        each("1", x, (y, rule) -> y.valueOf(1, rule), -5, 3, 0, 0, 1);
    }

    private static void noRule() {
        LeagueTables x = Ways.drawnOf(2);
        checks.fails("5", ARGUMENT, () -> x.valueOf(1, 5));
        checks.fails("-1", ARGUMENT, () -> x.valueOf(0, -1));
        for (int wrong : FAR) {
            checks.fails("" + wrong, ARGUMENT, () -> x.valueOf(0, wrong));
        }
        checks.fails("5 of no team", INDEX, () -> x.valueOf(2, 5));
    }

    private static void tied(Sentences s) {
        s.in("Promise 22");
        s.says("Returns the teams that have the same points as a team, itself included.", AnswersTest::samePoints);
        s.says("Returns the set of them, bit k for the team k.", AnswersTest::setOfBits);
        s.says(NO_TEAM, () -> noTeam(LeagueTables::tied));
    }

    private static void samePoints() {
        each("team", someWeeks(), LeagueTables::tied, 9, 2, 4, 9);
        each("a single team", Ways.teams(0), LeagueTables::tied, 1);
        LeagueTables x = Ways.drawnOf(2);
        x.result(0, 1, 0);
        each("itself alone", x, LeagueTables::tied, 1, 2);
    }

    private static void setOfBits() {
        each("all eight", Ways.drawnOf(8), LeagueTables::tied, 255, 255, 255, 255, 255, 255, 255, 255);
        LeagueTables x = Ways.drawnOf(8);
        Ways.tell(x, 1, 0, 0, 0, 0, 1, 0, 2);
        each("eight", x, LeagueTables::tied, 11, 11, 36, 11, 208, 36, 208, 208);
    }

    // ---- Promises 23 to 26

    private static void most(Sentences s) {
        s.in("Promise 23");
        s.says("Returns the points that a team would have if it won all its meetings that are not played.",
            AnswersTest::wonAll);
        s.says("Returns the points.", () -> each("team", someWeeks(), LeagueTables::most, 15, 13, 16, 15));
        s.says(NO_TEAM, () -> noTeam(LeagueTables::most));
    }

    private static void wonAll() {
        each("not drawn", Ways.teams(0, 0), LeagueTables::most, 0, 0);
        each("eight", Ways.drawnOf(8), LeagueTables::most, 42, 42, 42, 42, 42, 42, 42, 42);
        LeagueTables x = Ways.drawnOf(2);
        x.result(0, 1, 0);
        each("one is played", x, LeagueTables::most, 6, 3);
        x.back(0);
        x.putOff(0, 1);
        each("one is put off", x, LeagueTables::most, 6, 6);
        x.next();
        Ways.playWeek(x, 2, 2);
        each("all are played", x, LeagueTables::most, 2, 2);
        // A draw that gives more than a win: what is told is by wins all the same.
        LeagueTables y = Ways.teams(0, 1);
        y.give(1, 3);
        y.draw();
        each("by wins", y, LeagueTables::most, 2, 2);
        y.result(0, 1, 1);
        each("by a win behind a draw", y, LeagueTables::most, 4, 4);
    }

    private static double safe(LeagueTables x, int team) {
        return Ways.bool(x.isSafe(team));
    }

    private static double out(LeagueTables x, int team) {
        return Ways.bool(x.isOut(team));
    }

    private static void isSafe(Sentences s) {
        s.in("Promise 24");
        s.says("Returns whether no other team can have as many points as a team has now,", AnswersTest::noneAsMany);
        s.says("or more.", AnswersTest::noneMore);
        s.says("Returns whether it is so.", AnswersTest::safeWithSeveral);
        s.says(NO_TEAM, () -> noTeam(AnswersTest::safe));
    }

    private static void noneAsMany() {
        LeagueTables x = Ways.drawnOf(2);
        each("not a point yet", x, AnswersTest::safe, 0, 0);
        x.result(0, 1, 0);
        each("the other can have just as many", x, AnswersTest::safe, 0, 0);
        x.next();
        x.result(1, 1, 1);
        each("the other can have no more", x, AnswersTest::safe, 1, 0);
        x.undo();
        x.result(1, 1, 0);
        each("the other has as many", x, AnswersTest::safe, 0, 0);
        each("not drawn, two without points", Ways.teams(0, 0), AnswersTest::safe, 0, 0);
        each("no other team", Ways.teams(0), AnswersTest::safe, 1);
    }

    private static void noneMore() {
        LeagueTables x = Ways.drawnOf(2);
        x.putOff(0, 1);
        x.next();
        x.result(0, 0, 1);
        each("the other can have as many with one put off", x, AnswersTest::safe, 0, 0);
        x.result(1, 0, 2);
        each("the other has more", x, AnswersTest::safe, 0, 0);
        x.back(1);
        x.result(1, 0, 0);
        each("one more than the other", x, AnswersTest::safe, 0, 1);
        // A draw that gives more than a win: so the other can have more by a draw.
        LeagueTables y = Ways.teams(0, 1);
        y.give(2, 3);
        y.draw();
        y.result(0, 1, 0);
        each("more by a draw", y, AnswersTest::safe, 0, 0);
        LeagueTables z = Ways.teams(0, 1);
        z.give(3, 2);
        z.draw();
        z.result(0, 1, 0);
        z.next();
        each("as many by a win", z, AnswersTest::safe, 0, 0);
    }

    private static void safeWithSeveral() {
        // Three teams: 2 to 1, 0 to 2, 1 to 0, 1 to 2, 2 to 0, 0 to 1. The team 1 wins four times.
        LeagueTables x = Ways.drawnOf(3);
        for (int week = 0; week < 6; week++) {
            int home = x.meetingOf(week, 1);
            int away = x.meetingOf(week, 2);
            x.result(week, Ways.bool(home == 1), Ways.bool(away == 1));
            if (week < 5) {
                // Behind the fourth week it has 9 points, and the team 0 can have 7.
                each("week " + week, x, AnswersTest::safe, 0, Ways.bool(week >= 3), 0);
                x.next();
            }
        }
        each("all are played", x, AnswersTest::safe, 0, 1, 0);
    }

    private static void isOut(Sentences s) {
        s.in("Promise 25");
        s.says("Returns whether another team has more points now than a team can have.", AnswersTest::moreThanCanBe);
        s.says("Returns whether it is so.", AnswersTest::outWithSeveral);
        s.says(NO_TEAM, () -> noTeam(AnswersTest::out));
    }

    private static void moreThanCanBe() {
        LeagueTables x = Ways.drawnOf(2);
        each("not a point yet", x, AnswersTest::out, 0, 0);
        x.result(0, 1, 0);
        each("as many as it can have", x, AnswersTest::out, 0, 0);
        x.next();
        x.result(1, 1, 1);
        each("one more than it can have", x, AnswersTest::out, 0, 1);
        x.undo();
        x.result(1, 1, 0);
        each("as many as it has", x, AnswersTest::out, 0, 0);
        each("not drawn", Ways.teams(0, 0), AnswersTest::out, 0, 0);
        each("no other team", Ways.teams(0), AnswersTest::out, 0);
        LeagueTables y = Ways.teams(0, 1);
        y.give(1, 3);
        y.draw();
        y.result(0, 1, 0);
        each("what it can have is by a draw, too", y, AnswersTest::out, 0, 0);
    }

    private static void outWithSeveral() {
        // Three teams, of which 1 stays behind; by a draw of 3 it can have more than by a win of 1.
        LeagueTables x = Ways.teams(0, 1, 2);
        x.give(1, 3);
        x.draw();
        for (int week = 0; week < 6; week++) {
            int home = x.meetingOf(week, 1);
            int away = x.meetingOf(week, 2);
            x.result(week, Ways.bool(home != 1), Ways.bool(away != 1));
            int left = x.teamOf(1, 8);
            int best = Math.max(x.teamOf(0, 1), x.teamOf(2, 1));
            each("week " + week, x, AnswersTest::out, 0, Ways.bool(best > 3 * left), 0);
            if (week < 5) {
                x.next();
            }
        }
        each("all are played", x, AnswersTest::out, 0, 1, 0);
    }

    private static void run(Sentences s) {
        s.in("Promise 26");
        s.says("Returns the longest run without a loss of a team: in how many of its meetings that are played, one"
            + " behind the other by their numbers, it did not lose.", AnswersTest::longestRun);
        s.says("Returns how many.", AnswersTest::runsByNumbers);
        s.says(NO_TEAM, () -> noTeam(LeagueTables::run));
    }

    private static void longestRun() {
        each("not drawn", Ways.teams(0, 0), LeagueTables::run, 0, 0);
        LeagueTables x = Ways.drawnOf(2);
        each("none played", x, LeagueTables::run, 0, 0);
        x.result(0, 0, 0);
        each("a draw", x, LeagueTables::run, 1, 1);
        x.next();
        x.result(1, 0, 1);
        each("a draw, then a win away and a loss at home", x, LeagueTables::run, 2, 1);
        x.back(1);
        x.result(1, 1, 0);
        each("a draw, then a loss away and a win at home", x, LeagueTables::run, 1, 2);
        LeagueTables y = Ways.drawnOf(2);
        Ways.tell(y, 1, 0, 2, 1);
        each("a win and a loss each", y, LeagueTables::run, 1, 1);
        LeagueTables z = Ways.drawnOf(8);
        Ways.playTo(z, 13, 1, 1);
        Ways.playWeek(z, 1, 1);
        each("fourteen draws", z, LeagueTables::run, 14, 14, 14, 14, 14, 14, 14, 14);
    }

    private static void runsByNumbers() {
        // 0 to 3, 2 to 1; 0 to 2, 3 to 1; 1 to 0, 2 to 3; 1 to 2, 3 to 0; 1 to 3, 2 to 0; 0 to 1, 3 to 2.
        LeagueTables x = Ways.drawnOf(4);
        Ways.tell(x, 1, 0, 0, 1, 1, 1, 2, 0, 2, 0, 0, 0, 1, 0, 0, 0);
        each("four weeks", x, LeagueTables::run, 2, 2, 2, 3);
        LeagueTables y = Ways.drawnOf(4);
        y.putOff(1, 2);
        Ways.playTo(y, 2, 2, 0);
        y.result(4, 2, 0);
        each("without one put off", y, LeagueTables::run, 2, 1, 0, 1);
        y.result(1, 0, 3);
        each("its number counts, not its week", y, LeagueTables::run, 2, 1, 0, 1);
        y.result(5, 0, 1);
        each("three weeks", y, LeagueTables::run, 2, 1, 0, 2);
    }

    // ---- Promises 31 to 35

    private static void line(Sentences s) {
        s.in("Promise 31");
        s.says("Writes a team, in place of the line before:", AnswersTest::inPlaceOfTheLineBefore);
        s.says("its number, \":\", its points, a blank, its wins, \"-\", its draws, \"-\", its losses, a blank, the goals"
            + " that it made, \":\" and those against it;", AnswersTest::partsOfTheLine);
        s.says("and \"*\" behind that if it is safe,", AnswersTest::safeLine);
        s.says("or \"x\" if it is out;", AnswersTest::outLine);
        s.says("as in \"2:7 2-1-0 5:3*\".", AnswersTest::exampleLine);
        s.says("Returns the length of the line.", AnswersTest::lengthOfTheLine);
        s.says(NO_TEAM, () -> noTeam(LeagueTables::line));
    }

    private static void text(String call, String due, LeagueTables x, int team) {
        checks.note(call, Ways.lineOf(x, team), due);
    }

    private static void inPlaceOfTheLineBefore() {
        LeagueTables x = Ways.drawnOf(2);
        Ways.tell(x, 20, 0, 0, 20);
        text("a long one", "0:6 2-0-0 40:0*", x, 0);
        text("another", "1:0 0-0-2 0:40x", x, 1);
        x.undo();
        x.undo();
        text("a shorter one", "1:0 0-0-1 0:20", x, 1);
        checks.fails("nothing of the one before is left", INDEX, () -> x.character(14));
        checks.fails("no team", INDEX, () -> x.line(2));
        checks.note("the line before stays", Ways.shown(x, 14), "1:0 0-0-1 0:20");
    }

    private static void partsOfTheLine() {
        LeagueTables x = someWeeks();
        text("0", "0:3 1-0-1 3:5", x, 0);
        text("1", "1:1 0-1-1 2:3", x, 1);
        text("2", "2:4 1-1-0 6:2", x, 2);
        text("3", "3:3 1-0-1 2:3", x, 3);
        text("not drawn", "1:0 0-0-0 0:0", Ways.teams(0, 0), 1);
        LeagueTables y = Ways.drawnOf(8);
        for (int week = 0; week < 14; week++) {
            for (int m = 0; m < 56; m++) {
                if (m / 4 == week) {
                    y.result(m, y.meetingOf(m, 1) == 7 ? 20 : 0, y.meetingOf(m, 2) == 7 ? 20 : 0);
                }
            }
            if (week < 13) {
                y.next();
            }
        }
        text("the longest", "7:42 14-0-0 280:0*", y, 7);
        each("of the longest", y, (z, what) -> z.teamOf(7, what), 7, 42, 14, 0, 0, 280, 0, 140, 0);
        text("the last one's", "6:12 0-12-2 0:40x", y, 6);
    }

    private static void safeLine() {
        LeagueTables x = Ways.drawnOf(2);
        x.result(0, 1, 0);
        text("not safe", "0:3 1-0-0 1:0", x, 0);
        x.next();
        x.result(1, 0, 0);
        text("safe", "0:4 1-1-0 1:0*", x, 0);
        text("without others", "0:0 0-0-0 0:0*", Ways.teams(0), 0);
        LeagueTables y = Ways.teams(0, 1);
        y.give(2, 3);
        y.draw();
        y.result(0, 1, 0);
        text("not safe of a draw that gives more", "0:2 1-0-0 1:0", y, 0);
    }

    private static void outLine() {
        LeagueTables x = Ways.drawnOf(2);
        x.result(0, 1, 0);
        text("not out", "1:0 0-0-1 0:1", x, 1);
        x.next();
        x.result(1, 0, 0);
        text("out", "1:1 0-1-1 0:1x", x, 1);
        x.back(1);
        x.result(1, 1, 0);
        text("neither, 0", "0:3 1-0-1 1:1", x, 0);
        text("neither, 1", "1:3 1-0-1 1:1", x, 1);
    }

    private static void exampleLine() {
        // 0 to 3, 2 to 1; 0 to 2, 3 to 1; 1 to 0, 2 to 3: the team 2 wins twice and draws once, 5:3.
        LeagueTables x = Ways.drawnOf(4);
        Ways.tell(x, 0, 0, 2, 1, 1, 2, 0, 0, 0, 0, 1, 1);
        text("but for the sign", "2:7 2-1-0 5:3", x, 2);
        // Three teams: 2 to 1, 0 to 2, 1 to 0, 1 to 2, 2 to 0, 0 to 1. That of 2 and 0 is left.
        LeagueTables y = Ways.drawnOf(3);
        Ways.tell(y, 2, 1, 1, 2, 0, 0, 1, 1);
        y.next();
        y.putOff(4, 1);
        y.next();
        text("another can have as many", "2:7 2-1-0 5:3", y, 2);
        y.result(5, 0, 0);
        text("with the sign", "2:7 2-1-0 5:3*", y, 2);
    }

    private static void lengthOfTheLine() {
        LeagueTables x = someWeeks();
        checks.due("13 signs", 13, () -> x.line(0));
        LeagueTables y = Ways.drawnOf(2);
        Ways.tell(y, 20, 0, 0, 20);
        checks.due("with a sign behind it", 15, () -> y.line(0));
        checks.due("a single team", 14, () -> Ways.teams(0).line(0));
    }

    private static void character(Sentences s) {
        s.in("Promise 32");
        s.says("Returns a character of the line, which is empty at first.", AnswersTest::charactersOfTheLine);
        s.says("the index, from 0", AnswersTest::charactersOfTheLine);
        s.says("Returns the character.", AnswersTest::charactersOfTheLine);
        s.says("Throws `IndexOutOfBoundsException` if there is no such index", AnswersTest::noIndex);
    }

    private static void charactersOfTheLine() {
        LeagueTables x = someWeeks();
        checks.fails("empty at first", INDEX, () -> x.character(0));
        x.line(2);
        String due = "2:4 1-1-0 6:2";
        for (int i = 0; i < due.length(); i++) {
            int index = i;
            checks.due("the character " + i, due.charAt(i), () -> x.character(index));
        }
        x.result(4, 1, 1);
        checks.due("as it was written", '4', () -> x.character(2));
    }

    private static void noIndex() {
        LeagueTables x = someWeeks();
        checks.fails("0 of the empty line", INDEX, () -> x.character(0));
        checks.fails("-1 of the empty line", INDEX, () -> x.character(-1));
        int length = x.line(1);
        checks.due("the last", '3', () -> x.character(length - 1));
        checks.fails("behind the last", INDEX, () -> x.character(length));
        checks.fails("before the first", INDEX, () -> x.character(-1));
        for (int wrong : FAR) {
            checks.fails("" + wrong, INDEX, () -> x.character(wrong));
        }
    }

    private static void meanGoals(Sentences s) {
        s.in("Promise 33");
        s.says("Returns the mean number of goals of the meetings that are played: all goals divided by their number,"
            + " both as floats.", AnswersTest::meanOfGoals);
        s.says("Returns the mean.", AnswersTest::meanOfGoals);
        s.says("Throws `ArithmeticException` if none is played", () -> nonePlayed((x, none) -> x.meanGoals()));
    }

    private static void meanOfGoals() {
        LeagueTables x = Ways.drawnOf(4);
        Ways.tell(x, 0, 0);
        checks.due("no goals", 0.0f, x::meanGoals);
        LeagueTables y = Ways.drawnOf(4);
        Ways.tell(y, 3, 4, 0, 0);
        checks.due("not a whole number", 3.5f, y::meanGoals);
        LeagueTables z = Ways.drawnOf(4);
        Ways.tell(z, 3, 4, 0, 1, 1, 1);
        checks.due("a third more than three, as a float", 10.0f / 3.0f, z::meanGoals);
        checks.yes("which is not that of doubles", 10.0f / 3.0f != 10.0 / 3.0);
        LeagueTables high = Ways.drawnOf(2);
        Ways.tell(high, 20, 20, 20, 20);
        checks.due("as many as can be", 40.0f, high::meanGoals);
    }

    private static void nonePlayed(Question question) {
        LeagueTables x = Ways.drawnOf(2);
        checks.fails("none", ARITHMETIC, () -> question.answer(x, 0));
        x.result(0, 0, 0);
        checks.due("one without goals", 0, () -> question.answer(x, 0));
        x.back(0);
        checks.fails("none again", ARITHMETIC, () -> question.answer(x, 0));
        checks.fails("not drawn", ARITHMETIC, () -> question.answer(Ways.teams(0, 1), 0));
        x.result(0, 0, 0);
        x.undo();
        x.undo();
        x.undo();
        x.undo();
        checks.fails("the drawing being undone", ARITHMETIC, () -> question.answer(x, 0));
    }

    private static void homeShare(Sentences s) {
        s.in("Promise 34");
        s.says("Returns the share of the meetings that are played that the team at home won, both numbers as doubles.",
            AnswersTest::shareOfHomeWins);
        s.says("Returns the share.", AnswersTest::shareOfHomeWins);
        s.says("Throws `ArithmeticException` if none is played", () -> nonePlayed((x, none) -> x.homeShare()));
    }

    private static void shareOfHomeWins() {
        LeagueTables x = Ways.drawnOf(4);
        Ways.tell(x, 0, 1);
        checks.due("none by a win away", 0.0, x::homeShare);
        x.result(1, 2, 2);
        checks.due("none by a draw", 0.0, x::homeShare);
        x.next();
        x.result(2, 1, 0);
        checks.due("a third, as a double", 1.0 / 3.0, x::homeShare);
        checks.yes("which is not that of floats", 1.0 / 3.0 != 1.0f / 3.0f);
        LeagueTables y = Ways.drawnOf(2);
        Ways.tell(y, 1, 0, 20, 19);
        checks.due("all", 1.0, y::homeShare);
    }

    private static void account(Sentences s) {
        s.in("Promise 35");
        s.says("Returns an account.", AnswersTest::accountsOfNothing);
        s.says("0 for the teams,", () -> accountIs(0, 4));
        s.says("1 for 1 if the league is drawn, otherwise 0,", AnswersTest::accountOfTheDraw);
        s.says("2 for its weeks,", () -> accountIs(2, 6));
        s.says("3 for the present week,", () -> accountIs(3, 1));
        s.says("4 for the meetings,", () -> accountIs(4, 12));
        s.says("5 for those that are played,", () -> accountIs(5, 2));
        s.says("6 for those that are put off,", AnswersTest::accountOfPutOffs);
        s.says("7 for the points of a win,", () -> accountIs(7, 4));
        s.says("8 for those of a draw,", () -> accountIs(8, 2));
        s.says("9 for the rules,", () -> accountIs(9, 3));
        s.says("10 for all goals,", () -> accountIs(10, 7));
        s.says("11 for the points of all teams,", () -> accountIs(11, 8));
        s.says("12 for the clashes of all weeks,", AnswersTest::accountOfClashes);
        s.says("13 for the changes that can be undone,", AnswersTest::accountOfChanges);
        s.says("14 for the characters in the text buffer", AnswersTest::accountOfCharacters);
        s.says("Returns the account.", AnswersTest::accountsOfNothing);
        s.says("Throws `IllegalArgumentException` if what is not from 0 to 14", AnswersTest::noAccount);
    }

    private static void accountsOfNothing() {
        each("of a new object", new LeagueTables(), LeagueTables::account,
            0, 0, 0, 0, 0, 0, 0, 3, 1, 2, 0, 0, 0, 0, 0);
        LeagueTables x = Ways.drawnOf(8);
        Ways.playTo(x, 13, 20, 20);
        Ways.playWeek(x, 20, 20);
        each("of all that is played", x, LeagueTables::account,
            8, 1, 14, 13, 56, 56, 0, 3, 1, 2, 2240, 112, 0, 8, 0);
    }

    private static void accountIs(int what, int due) {
        LeagueTables x = Ways.teams(5, 5, 5, 6);
        x.give(4, 2);
        x.rules(1, 2, 3);
        x.draw();
        x.result(0, 3, 2);
        x.putOff(1, 2);
        x.next();
        x.result(2, 1, 1);
        checks.due("account " + what, due, () -> x.account(what));
    }

    private static void accountOfTheDraw() {
        LeagueTables x = Ways.teams(0, 1);
        checks.due("not drawn", 0, () -> x.account(1));
        x.draw();
        checks.due("drawn", 1, () -> x.account(1));
        x.undo();
        checks.due("undone", 0, () -> x.account(1));
    }

    private static void accountOfPutOffs() {
        accountIs(6, 1);
        LeagueTables x = Ways.drawnOf(2);
        checks.due("none", 0, () -> x.account(6));
        x.putOff(0, 1);
        checks.due("one", 1, () -> x.account(6));
        x.next();
        checks.due("one in its week", 1, () -> x.account(6));
        x.result(0, 1, 1);
        checks.due("played, put off no more", 0, () -> x.account(6));
        x.back(0);
        checks.due("taken back, put off again", 1, () -> x.account(6));
    }

    private static void accountOfClashes() {
        checks.due("none", 0, () -> Ways.drawnOf(8).account(12));
        checks.due("all", 84, () -> Ways.drawn(new int[8]).account(12));
        checks.due("not drawn", 0, () -> Ways.teams(0, 0, 0, 0).account(12));
        LeagueTables x = Ways.drawn(3, 3, 3, 3);
        checks.due("one of each week", 6, () -> x.account(12));
        x.putOff(1, 5);
        checks.due("three of the last week", 7, () -> x.account(12));
    }

    private static void accountOfChanges() {
        LeagueTables x = new LeagueTables();
        for (int i = 1; i <= 12; i++) {
            x.rules(-1, -1, -1);
            int due = Math.min(i, 8);
            checks.due("behind " + i, due, () -> x.account(13));
        }
        x.undo();
        checks.due("behind undo", 7, () -> x.account(13));
        x.save();
        checks.due("behind save", 7, () -> x.account(13));
        x.restore();
        checks.due("behind restore", 0, () -> x.account(13));
    }

    private static void accountOfCharacters() {
        LeagueTables x = Ways.drawnOf(2);
        Ways.write(x, "t4");
        checks.due("two", 2, () -> x.account(14));
        x.commands();
        checks.due("none", 0, () -> x.account(14));
        Ways.write(x, "t".repeat(60));
        checks.due("sixty", 60, () -> x.account(14));
        checks.fails("one more", IllegalStateException.class, () -> x.append('t'));
        checks.due("sixty still", 60, () -> x.account(14));
    }

    private static void noAccount() {
        LeagueTables x = Ways.drawnOf(2);
        checks.fails("15", ARGUMENT, () -> x.account(15));
        checks.fails("-1", ARGUMENT, () -> x.account(-1));
        for (int wrong : FAR) {
            checks.fails("" + wrong, ARGUMENT, () -> x.account(wrong));
        }
        checks.fails("15 of a new object", ARGUMENT, () -> new LeagueTables().account(15));
        checks.fails("refused by that: nothing", NONE, () -> x.reason(0));
        checks.fails("a refused call", REFUSED, x::next);
    }
}
