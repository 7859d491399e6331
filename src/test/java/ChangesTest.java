import java.io.IOException;
import java.util.NoSuchElementException;

/** The promises of what changes the league or tells of a refusal, sentence by sentence: 1 to 10, 27 to 30, 36 to 38. */
public final class ChangesTest {
    private static final Class<UnsupportedOperationException> REFUSED = UnsupportedOperationException.class;
    private static final Class<IndexOutOfBoundsException> INDEX = IndexOutOfBoundsException.class;
    private static final Class<IllegalArgumentException> ARGUMENT = IllegalArgumentException.class;
    private static final Class<IllegalStateException> STATE = IllegalStateException.class;
    private static final Class<NoSuchElementException> NONE = NoSuchElementException.class;
    private static final Class<ArithmeticException> ARITHMETIC = ArithmeticException.class;
    private static final int[] FAR = {Integer.MIN_VALUE, Integer.MAX_VALUE};
    private static final Checks checks = new Checks("changes");

    public static void main(String[] args) throws IOException {
        Sentences s = new Sentences(checks, args.length == 0 ? "." : args[0]);
        newObject(s);
        teams(s);
        grounds(s);
        drawing(s);
        giving(s);
        rules(s);
        results(s);
        backs(s);
        puttingOff(s);
        nexts(s);
        appending(s);
        commands(s);
        faults(s);
        reasons(s);
        undoing(s);
        saving(s);
        restoring(s);
        s.end();
        checks.end();
    }

    private static String refusedFor(String reasons) {
        return "Throws `UnsupportedOperationException` if it is refused for the reason " + reasons
            + "; the reason is kept";
    }

    // ---- Promise 1: A new object

    private static void newObject(Sentences s) {
        s.in("Promise 1");
        s.says("Creates a league without teams, which is not drawn.", ChangesTest::isEmpty);
    }

    private static void isEmpty() {
        LeagueTables x = new LeagueTables();
        int[] due = {0, 0, 0, 0, 0, 0, 0, 3, 1, 2, 0, 0, 0, 0, 0};
        for (int what = 0; what < due.length; what++) {
            int account = what;
            checks.due("account " + what, due[what], () -> x.account(account));
        }
        checks.fails("no team", INDEX, () -> x.teamOf(0, 0));
        checks.fails("no place", NONE, () -> x.ranked(0));
        checks.fails("no week", INDEX, () -> x.meetingsIn(0));
        checks.fails("no meeting", INDEX, () -> x.meetingOf(0, 0));
        checks.fails("no mean", ARITHMETIC, x::meanGoals);
        checks.fails("no share", ARITHMETIC, x::homeShare);
        checks.fails("no line", INDEX, () -> x.character(0));
        checks.fails("no reason", NONE, () -> x.reason(0));
        checks.fails("no change", STATE, x::undo);
        checks.fails("no snapshot", STATE, x::restore);
        checks.due("no fault", -1, x::faultPosition);
        checks.refused("not drawn", x, "5 0 0", x::next);
        LeagueTables other = Ways.drawnOf(2);
        checks.due("each has its own", 0, () -> new LeagueTables().account(0));
        checks.due("two of the other one", 2, () -> other.account(0));
    }

    // ---- Promise 2: team

    private static void teams(Sentences s) {
        s.in("Promise 2");
        s.says("Adds a team.", ChangesTest::oneTeamMore);
        s.says("Returns its number.", ChangesTest::numberOfTheTeam);
        s.says(refusedFor("1, 4 or 2"), ChangesTest::teamIsRefused);
    }

    private static void oneTeamMore() {
        LeagueTables x = new LeagueTables();
        for (int i = 1; i <= 8; i++) {
            int ground = 10 - i;
            x.team(ground);
            int last = i - 1;
            checks.due("teams", i, () -> x.account(0));
            checks.due("its ground", ground, () -> x.teamOf(last, 0));
            checks.due("the last in the table", last, () -> x.ranked(last));
        }
        checks.due("the first one's ground is its own", 9, () -> x.teamOf(0, 0));
    }

    private static void numberOfTheTeam() {
        LeagueTables x = new LeagueTables();
        checks.due("the first", 0, () -> x.team(9));
        checks.due("the second", 1, () -> x.team(9));
        x.undo();
        checks.due("the second again", 1, () -> x.team(0));
        for (int i = 2; i < 7; i++) {
            x.team(0);
        }
        checks.due("the last", 7, () -> x.team(0));
    }

    private static void teamIsRefused() {
        LeagueTables x = Ways.teams(0, 0, 0, 0, 0, 0, 0);
        checks.refused("a ground too low", x, "1 0 0", () -> x.team(-1));
        checks.refused("a ground too high", x, "1 0 0", () -> x.team(10));
        for (int ground : FAR) {
            checks.refused("the ground " + ground, x, "1 0 0", () -> x.team(ground));
        }
        checks.due("none of them is added", 7, () -> x.account(0));
        x.team(0);
        checks.refused("one too many", x, "2 8 0", () -> x.team(0));
        x.draw();
        checks.refused("drawn", x, "4 0 0", () -> x.team(0));
        checks.refused("drawn, and no ground", x, "1 0 0", () -> x.team(10));
        LeagueTables y = Ways.drawnOf(2);
        checks.refused("drawn with room", y, "4 0 0", () -> y.team(9));
        checks.due("two are left", 2, () -> y.account(0));
    }

    // ---- Promise 3: ground

    private static void grounds(Sentences s) {
        s.in("Promise 3");
        s.says("Gives a team another ground, or the same.", ChangesTest::anotherGround);
        s.says("Returns the ground before.", ChangesTest::groundBefore);
        s.says(refusedFor("3 or 1"), ChangesTest::groundIsRefused);
    }

    private static void anotherGround() {
        LeagueTables x = Ways.teams(4, 5);
        x.ground(1, 0);
        checks.due("the lowest", 0, () -> x.teamOf(1, 0));
        x.ground(1, 9);
        checks.due("the highest", 9, () -> x.teamOf(1, 0));
        x.ground(1, 9);
        checks.due("the same", 9, () -> x.teamOf(1, 0));
        x.ground(1, 4);
        checks.due("that of the other one", 4, () -> x.teamOf(1, 0));
        checks.due("the other one's stays", 4, () -> x.teamOf(0, 0));
        x.draw();
        x.ground(1, 7);
        checks.due("when drawn", 7, () -> x.teamOf(1, 0));
        Ways.playTo(x, 1, 1, 1);
        Ways.playWeek(x, 1, 1);
        x.ground(0, 8);
        checks.due("when all is played", 8, () -> x.teamOf(0, 0));
    }

    private static void groundBefore() {
        LeagueTables x = Ways.teams(4, 5);
        checks.due("that it came with", 5, () -> x.ground(1, 0));
        checks.due("the lowest", 0, () -> x.ground(1, 9));
        checks.due("the highest", 9, () -> x.ground(1, 9));
        checks.due("the same", 9, () -> x.ground(1, 3));
        x.undo();
        checks.due("that of before what is undone", 9, () -> x.ground(1, 3));
        checks.due("the other one's", 4, () -> x.ground(0, 3));
    }

    private static void groundIsRefused() {
        LeagueTables x = Ways.teams(4, 5);
        checks.refused("no team 2", x, "3 2 0", () -> x.ground(2, 4));
        checks.refused("no team -1", x, "3 -1 0", () -> x.ground(-1, 4));
        checks.refused("no team and no ground", x, "3 8 0", () -> x.ground(8, -1));
        checks.refused("a ground too low", x, "1 0 0", () -> x.ground(1, -1));
        checks.refused("a ground too high", x, "1 0 0", () -> x.ground(1, 10));
        for (int wrong : FAR) {
            checks.refused("the team " + wrong, x, "3 " + wrong + " 0", () -> x.ground(wrong, wrong));
            checks.refused("the ground " + wrong, x, "1 0 0", () -> x.ground(0, wrong));
        }
        checks.due("the grounds stay", 45, () -> 10 * x.teamOf(0, 0) + x.teamOf(1, 0));
    }

    // ---- Promise 4: draw

    private static void drawing(Sentences s) {
        s.in("Promise 4");
        s.says("Draws the league.", ChangesTest::drawn);
        s.says("Returns the number of its weeks.", ChangesTest::weeksOfTheLeague);
        s.says(refusedFor("4 or 6"), ChangesTest::drawIsRefused);
    }

    private static void drawn() {
        for (int n = 2; n <= 8; n++) {
            LeagueTables x = Ways.drawnOf(n);
            checks.due(n + " teams, drawn", 1, () -> x.account(1));
            checks.due(n + " teams, meetings", n * (n - 1), () -> x.account(4));
            checks.due(n + " teams, all to be played", 2 * (n - 1), () -> x.teamOf(x.account(0) - 1, 8));
            checks.due(n + " teams, none played or put off", 0, () -> x.account(5) + x.account(6));
        }
        LeagueTables y = Ways.teams(0, 1);
        checks.due("not drawn", 0, () -> y.account(1));
        y.draw();
        y.undo();
        checks.due("not drawn again", 0, () -> y.account(1) + y.account(4) + y.account(2));
        y.team(2);
        y.team(3);
        y.draw();
        checks.due("drawn with more", 12, () -> y.account(4));
    }

    private static void weeksOfTheLeague() {
        int[] due = {2, 6, 6, 10, 10, 14, 14};
        for (int n = 2; n <= 8; n++) {
            LeagueTables x = Ways.teams(new int[n]);
            checks.due(n + " teams", due[n - 2], x::draw);
            checks.due(n + " teams, the account", due[n - 2], () -> x.account(2));
        }
    }

    private static void drawIsRefused() {
        LeagueTables x = new LeagueTables();
        checks.refused("no team", x, "6 0 0", x::draw);
        x.team(0);
        checks.refused("a single team", x, "6 1 0", x::draw);
        checks.due("not drawn", 0, () -> x.account(1));
        x.team(0);
        x.draw();
        checks.refused("drawn", x, "4 0 0", x::draw);
        Ways.playTo(x, 1, 1, 0);
        checks.refused("drawn and played", x, "4 0 0", x::draw);
        checks.due("what is played stays", 1, () -> x.account(5));
    }

    // ---- Promise 5: give

    private static void giving(Sentences s) {
        s.in("Promise 5");
        s.says("Sets what a win and a draw give.", ChangesTest::winAndDraw);
        s.says("the points of a win, 1 to 5", ChangesTest::pointsOfAWin);
        s.says("those of a draw, 0 to 3", ChangesTest::pointsOfADraw);
        s.says("Returns 10 times what a win gave, and what a draw gave, together.", ChangesTest::gaveBefore);
        s.says(refusedFor("1 or 12"), ChangesTest::giveIsRefused);
    }

    private static void winAndDraw() {
        LeagueTables x = Ways.teams(0, 1);
        x.give(5, 2);
        checks.due("a win", 5, () -> x.account(7));
        checks.due("a draw", 2, () -> x.account(8));
        x.draw();
        x.give(4, 3);
        Ways.tell(x, 1, 0, 2, 2);
        checks.due("a win and a draw", 7, () -> x.teamOf(0, 1));
        checks.due("a loss and a draw", 3, () -> x.teamOf(1, 1));
        checks.due("by the second way", 7, () -> x.pointsAgain(0));
    }

    private static void pointsOfAWin() {
        LeagueTables x = new LeagueTables();
        for (int win = 1; win <= 5; win++) {
            x.give(win, 1);
            checks.due("a win", win, () -> x.account(7));
        }
        checks.refused("too low", x, "1 0 0", () -> x.give(0, 1));
        checks.refused("too high", x, "1 0 0", () -> x.give(6, 1));
        for (int win : FAR) {
            checks.refused("a win " + win, x, "1 0 0", () -> x.give(win, 1));
        }
        checks.due("the last that was right", 5, () -> x.account(7));
    }

    private static void pointsOfADraw() {
        LeagueTables x = new LeagueTables();
        for (int draw = 0; draw <= 3; draw++) {
            x.give(1, draw);
            checks.due("a draw", draw, () -> x.account(8));
        }
        checks.refused("too low", x, "1 0 0", () -> x.give(1, -1));
        checks.refused("too high", x, "1 0 0", () -> x.give(1, 4));
        for (int draw : FAR) {
            checks.refused("a draw " + draw, x, "1 0 0", () -> x.give(1, draw));
        }
        checks.due("the last that was right", 3, () -> x.account(8));
    }

    private static void gaveBefore() {
        LeagueTables x = new LeagueTables();
        checks.due("at first", 31, () -> x.give(5, 3));
        checks.due("the highest", 53, () -> x.give(1, 0));
        checks.due("the lowest", 10, () -> x.give(1, 0));
        checks.due("the same", 10, () -> x.give(2, 1));
        x.undo();
        checks.due("that of before what is undone", 10, () -> x.give(2, 1));
    }

    private static void giveIsRefused() {
        LeagueTables x = Ways.drawnOf(2);
        checks.refused("out of range", x, "1 0 0", () -> x.give(0, 4));
        x.result(0, 0, 0);
        checks.refused("one is played", x, "12 1 0", () -> x.give(2, 1));
        checks.refused("one is played, the same points", x, "12 1 0", () -> x.give(3, 1));
        checks.refused("one is played, and out of range", x, "1 0 0", () -> x.give(3, 4));
        x.next();
        x.result(1, 0, 0);
        checks.refused("all are played", x, "12 2 0", () -> x.give(2, 1));
        checks.due("points as before", 31, () -> 10 * x.account(7) + x.account(8));
        checks.due("points of the teams as before", 2, () -> x.teamOf(1, 1));
    }

    // ---- Promise 6: rules

    private static void rules(Sentences s) {
        s.in("Promise 6");
        s.says("Sets the rules by which ties are told apart, in their order.", ChangesTest::rulesInOrder);
        s.says("a rule, or -1 for none", () -> ruleAt(0));
        s.says("another one, or -1", () -> ruleAt(1));
        s.says("another one, or -1", () -> ruleAt(2));
        s.says("Returns how many rules there are then.", ChangesTest::numberOfRules);
        s.says(refusedFor("1 or 13"), ChangesTest::rulesAreRefused);
    }

    private static void order(String call, LeagueTables x, int... due) {
        for (int p = 0; p < due.length; p++) {
            int place = p;
            checks.due(call + ": at the place " + p, due[p], () -> x.ranked(place));
            checks.due(call + ": place of " + due[p], p, () -> x.placeOf(due[place]));
        }
    }

    private static void rulesInOrder() {
        // 0 to 3 is 2:0, 2 to 1 is 5:4: a higher lead against more goals.
        LeagueTables x = Ways.drawnOf(4);
        Ways.tell(x, 2, 0, 5, 4);
        x.rules(0, 1, -1);
        order("0 ahead of 1", x, 0, 2, 1, 3);
        x.rules(1, 0, -1);
        order("1 ahead of 0", x, 2, 0, 1, 3);
        x.rules(2, 3, 1);
        order("the third tells", x, 2, 0, 1, 3);
        x.rules(2, 3, 0);
        order("another third one", x, 0, 2, 1, 3);
    }

    private static int rulesWith(LeagueTables x, int index, int rule) {
        return x.rules(index == 0 ? rule : -1, index == 1 ? rule : -1, index == 2 ? rule : -1);
    }

    private static void ruleAt(int index) {
        LeagueTables x = new LeagueTables();
        checks.due("none", 0, () -> rulesWith(x, index, -1));
        for (int r = 0; r <= 4; r++) {
            int rule = r;
            checks.due("the rule " + r, 1, () -> rulesWith(x, index, rule));
        }
        checks.refused("too high", x, "1 0 0", () -> rulesWith(x, index, 5));
        checks.refused("too low", x, "1 0 0", () -> rulesWith(x, index, -2));
        for (int rule : FAR) {
            checks.refused("the rule " + rule, x, "1 0 0", () -> rulesWith(x, index, rule));
        }
        checks.due("one is left", 1, () -> x.account(9));
    }

    private static void numberOfRules() {
        LeagueTables x = new LeagueTables();
        checks.due("three", 3, () -> x.rules(2, 1, 0));
        checks.due("none", 0, () -> x.rules(-1, -1, -1));
        checks.due("the first", 1, () -> x.rules(2, -1, -1));
        checks.due("the second", 1, () -> x.rules(-1, 2, -1));
        checks.due("the third", 1, () -> x.rules(-1, -1, 2));
        checks.due("the first two", 2, () -> x.rules(0, 1, -1));
        checks.due("the outer two", 2, () -> x.rules(0, -1, 1));
        checks.due("the last two", 2, () -> x.rules(-1, 0, 1));
        checks.due("the account", 2, () -> x.account(9));
    }

    private static void rulesAreRefused() {
        LeagueTables x = Ways.drawnOf(4);
        Ways.tell(x, 2, 0, 5, 4);
        checks.refused("out of range", x, "1 0 0", () -> x.rules(1, 0, 5));
        checks.refused("out of range and told twice", x, "1 0 0", () -> x.rules(1, 1, -2));
        checks.refused("0 told twice", x, "13 0 0", () -> x.rules(0, 0, -1));
        checks.refused("1 told twice", x, "13 1 0", () -> x.rules(1, 0, 1));
        checks.refused("4 told twice", x, "13 4 0", () -> x.rules(1, 4, 4));
        order("the rules stay", x, 0, 2, 1, 3);
    }

    // ---- Promise 7: result

    private static void results(Sentences s) {
        s.in("Promise 7");
        s.says("Tells the result of a meeting, which is played then.", ChangesTest::isPlayedThen);
        s.says("Returns how many meetings of the present week are not played.", ChangesTest::leftByResults);
        s.says(refusedFor("5, 3, 1, 8 or 7"), ChangesTest::resultIsRefused);
    }

    private static void isPlayedThen() {
        LeagueTables x = Ways.drawnOf(4);
        x.result(1, 20, 0);
        checks.due("played", 1, () -> x.meetingOf(1, 3));
        checks.due("goals at home", 20, () -> x.meetingOf(1, 4));
        checks.due("goals away", 0, () -> x.meetingOf(1, 5));
        checks.due("one is played", 1, () -> x.account(5));
        checks.due("the other one is open", 0, () -> x.meetingOf(0, 3));
        checks.due("one less to play", 5, () -> x.teamOf(2, 8));
        x.putOff(0, 1);
        x.next();
        x.result(0, 0, 20);
        checks.due("one put off is played", 1, () -> x.meetingOf(0, 3));
        checks.due("none is put off", 0, () -> x.account(6));
        checks.due("goals away of it", 20, () -> x.teamOf(3, 7));
    }

    private static void leftByResults() {
        LeagueTables x = Ways.drawnOf(8);
        for (int m = 0; m < 4; m++) {
            int meeting = m;
            checks.due("the meeting " + m, 3 - m, () -> x.result(meeting, 1, 1));
        }
        LeagueTables y = Ways.drawnOf(4);
        y.putOff(0, 1);
        checks.due("without one put off", 0, () -> y.result(1, 0, 0));
        y.next();
        checks.due("with the one put off", 2, () -> y.result(3, 0, 0));
        checks.due("its own", 1, () -> y.result(0, 0, 0));
        checks.due("the last", 0, () -> y.result(2, 0, 0));
        checks.due("a single one", 0, () -> Ways.drawnOf(2).result(0, 0, 0));
    }

    private static void resultIsRefused() {
        LeagueTables x = Ways.teams(0, 1, 2, 3);
        checks.refused("not drawn", x, "5 0 0", () -> x.result(0, 1, 1));
        x.draw();
        checks.refused("no meeting 12", x, "3 12 0", () -> x.result(12, 1, 1));
        checks.refused("no meeting -1", x, "3 -1 0", () -> x.result(-1, 1, 1));
        checks.refused("goals at home too low", x, "1 0 0", () -> x.result(0, -1, 1));
        checks.refused("goals at home too high", x, "1 0 0", () -> x.result(0, 21, 1));
        checks.refused("goals away too low", x, "1 0 0", () -> x.result(0, 1, -1));
        checks.refused("goals away too high", x, "1 0 0", () -> x.result(0, 1, 21));
        x.result(0, 1, 1);
        checks.refused("played", x, "8 0 0", () -> x.result(0, 1, 1));
        checks.refused("the week behind", x, "7 1 0", () -> x.result(2, 1, 1));
        checks.due("one is played", 1, () -> x.account(5));
        for (int wrong : FAR) {
            checks.refused("the meeting " + wrong, x, "3 " + wrong + " 0", () -> x.result(wrong, 1, 1));
            checks.refused("goals " + wrong, x, "1 0 0", () -> x.result(1, wrong, wrong));
        }
    }

    // ---- Promise 8: back

    private static void backs(Sentences s) {
        s.in("Promise 8");
        s.says("Takes a result back;", ChangesTest::isTakenBack);
        s.says("the meeting is open or put off again, as it was.", ChangesTest::openOrPutOffAgain);
        s.says("Returns how many meetings of the present week are not played.", ChangesTest::leftByBacks);
        s.says(refusedFor("5, 3, 9 or 7"), ChangesTest::backIsRefused);
    }

    private static void isTakenBack() {
        LeagueTables x = Ways.drawnOf(4);
        x.result(0, 5, 2);
        x.result(1, 0, 0);
        x.back(0);
        checks.due("no goals at home", -1, () -> x.meetingOf(0, 4));
        checks.due("no goals away", -1, () -> x.meetingOf(0, 5));
        checks.due("no points", 0, () -> x.teamOf(0, 1));
        checks.due("one is played", 1, () -> x.account(5));
        checks.due("no goals in all", 0, () -> x.account(10));
        checks.due("another result", 0, () -> x.result(0, 0, 1));
        checks.due("its goals", 1, () -> x.meetingOf(0, 5));
    }

    private static void openOrPutOffAgain() {
        LeagueTables x = Ways.drawnOf(4);
        x.result(1, 1, 1);
        x.back(1);
        checks.due("open", 0, () -> x.meetingOf(1, 3));
        x.result(1, 1, 1);
        x.putOff(0, 1);
        x.next();
        x.result(0, 1, 1);
        x.back(0);
        checks.due("put off", 2, () -> x.meetingOf(0, 3));
        checks.due("in its later week", 1, () -> x.meetingOf(0, 0));
        checks.due("one is put off", 1, () -> x.account(6));
        x.result(2, 1, 1);
        x.back(2);
        checks.due("open beside one put off", 0, () -> x.meetingOf(2, 3));
    }

    private static void leftByBacks() {
        LeagueTables x = Ways.drawnOf(8);
        Ways.playWeek(x, 1, 1);
        for (int m = 0; m < 4; m++) {
            int meeting = m;
            checks.due("the meeting " + m, m + 1, () -> x.back(meeting));
        }
        LeagueTables y = Ways.drawnOf(4);
        y.putOff(0, 1);
        Ways.playTo(y, 1, 1, 1);
        Ways.playWeek(y, 1, 1);
        checks.due("one put off", 1, () -> y.back(0));
        checks.due("and one of its own", 2, () -> y.back(3));
    }

    private static void backIsRefused() {
        LeagueTables x = Ways.teams(0, 1, 2, 3);
        checks.refused("not drawn", x, "5 0 0", () -> x.back(0));
        x.draw();
        checks.refused("no meeting 12", x, "3 12 0", () -> x.back(12));
        checks.refused("no meeting -1", x, "3 -1 0", () -> x.back(-1));
        checks.refused("open", x, "9 0 0", () -> x.back(0));
        x.putOff(0, 2);
        checks.refused("put off", x, "9 2 0", () -> x.back(0));
        x.result(1, 1, 1);
        x.next();
        checks.refused("the week before", x, "7 0 0", () -> x.back(1));
        checks.due("it is played still", 1, () -> x.meetingOf(1, 3));
        for (int wrong : FAR) {
            checks.refused("the meeting " + wrong, x, "3 " + wrong + " 0", () -> x.back(wrong));
        }
    }

    // ---- Promise 9: putOff

    private static void puttingOff(Sentences s) {
        s.in("Promise 9");
        s.says("Puts a meeting off.", ChangesTest::isPutOff);
        s.says("by how many weeks, 1 to 9", ChangesTest::byWeeks);
        s.says("Returns with how many meetings it clashes then.", ChangesTest::clashesThen);
        s.says(refusedFor("5, 3, 1, 8, 7 or 10"), ChangesTest::putOffIsRefused);
    }

    private static void isPutOff() {
        LeagueTables x = Ways.drawnOf(4);
        x.putOff(0, 2);
        checks.due("put off", 2, () -> x.meetingOf(0, 3));
        checks.due("its week", 2, () -> x.meetingOf(0, 0));
        checks.due("the week for which it was drawn", 0, () -> x.meetingOf(0, 6));
        checks.due("the teams stay", 3, () -> 10 * x.meetingOf(0, 1) + x.meetingOf(0, 2));
        checks.due("one is put off", 1, () -> x.account(6));
        checks.due("it is to be played", 6, () -> x.teamOf(0, 8));
        checks.due("its number stays", 0, () -> x.find(0, 3));
        x.putOff(1, 1);
        checks.due("two are put off", 2, () -> x.account(6));
        checks.due("none is left in the week", 0, () -> x.meetingsIn(0));
        checks.due("the next week can come", 1, x::next);
    }

    private static void byWeeks() {
        for (int w = 1; w <= 9; w++) {
            LeagueTables x = Ways.drawnOf(8);
            int weeks = w;
            x.putOff(3, weeks);
            checks.due("by " + w, weeks, () -> x.meetingOf(3, 0));
        }
        LeagueTables y = Ways.drawnOf(8);
        checks.refused("too few", y, "1 0 0", () -> y.putOff(3, 0));
        checks.refused("fewer", y, "1 0 0", () -> y.putOff(3, -1));
        checks.refused("too many", y, "1 0 0", () -> y.putOff(3, 10));
        for (int weeks : FAR) {
            checks.refused("by " + weeks, y, "1 0 0", () -> y.putOff(3, weeks));
        }
        checks.due("it stays in its week", 0, () -> y.meetingOf(3, 0) + y.meetingOf(3, 3));
    }

    private static void clashesThen() {
        LeagueTables x = Ways.drawn(5, 5, 5, 5);
        checks.due("with both of the week", 2, () -> x.putOff(0, 1));
        checks.due("with three", 3, () -> x.putOff(1, 1));
        LeagueTables y = Ways.drawnOf(4);
        checks.due("with one of the same team at home", 1, () -> y.putOff(0, 1));
        checks.due("with none", 0, () -> y.putOff(1, 1));
        LeagueTables z = Ways.drawn(5, 1, 2, 5);
        checks.due("with both, one by the team and one by the ground", 2, () -> z.putOff(0, 1));
        LeagueTables w = Ways.drawn(5, 6, 2, 3);
        w.ground(2, 5);
        checks.due("by the ground of now", 1, () -> w.putOff(0, 2));
    }

    private static void putOffIsRefused() {
        LeagueTables x = Ways.teams(0, 1, 2, 3);
        checks.refused("not drawn", x, "5 0 0", () -> x.putOff(0, 1));
        x.draw();
        checks.refused("no meeting 12", x, "3 12 0", () -> x.putOff(12, 1));
        checks.refused("no meeting -1", x, "3 -1 0", () -> x.putOff(-1, 1));
        checks.refused("by 0 weeks", x, "1 0 0", () -> x.putOff(0, 0));
        checks.refused("by 10 weeks", x, "1 0 0", () -> x.putOff(0, 10));
        checks.refused("the week behind", x, "7 1 0", () -> x.putOff(2, 1));
        checks.refused("no week 6", x, "10 6 0", () -> x.putOff(0, 6));
        x.result(0, 1, 1);
        checks.refused("played", x, "8 0 0", () -> x.putOff(0, 1));
        checks.due("none is put off", 0, () -> x.account(6));
        for (int wrong : FAR) {
            checks.refused("the meeting " + wrong, x, "3 " + wrong + " 0", () -> x.putOff(wrong, 1));
        }
    }

    // ---- Promise 10: next

    private static void nexts(Sentences s) {
        s.in("Promise 10");
        s.says("Lets the next week come.", ChangesTest::nextComes);
        s.says("Returns the present week then.", ChangesTest::weekThen);
        s.says(refusedFor("5, 11 or 14"), ChangesTest::nextIsRefused);
    }

    private static void nextComes() {
        LeagueTables x = Ways.drawnOf(2);
        x.result(0, 1, 1);
        x.next();
        checks.due("the present week", 1, () -> x.account(3));
        checks.due("its meeting can be played", 0, () -> x.result(1, 1, 1));
        LeagueTables y = Ways.drawnOf(4);
        y.putOff(0, 1);
        y.putOff(1, 1);
        y.next();
        checks.due("behind an empty week", 1, () -> y.account(3));
        checks.due("nothing is played by it", 0, () -> y.account(5));
    }

    private static void weekThen() {
        LeagueTables x = Ways.drawnOf(3);
        for (int week = 1; week <= 5; week++) {
            Ways.playWeek(x, 1, 1);
            checks.due("the week", week, x::next);
        }
        LeagueTables y = Ways.drawnOf(8);
        Ways.playTo(y, 12, 0, 0);
        Ways.playWeek(y, 0, 0);
        checks.due("the last that there can be", 13, y::next);
    }

    private static void nextIsRefused() {
        LeagueTables x = Ways.teams(0, 1);
        checks.refused("not drawn", x, "5 0 0", x::next);
        x.draw();
        checks.refused("not played", x, "11 0 0", x::next);
        Ways.playTo(x, 1, 1, 1);
        checks.refused("the last week, not played", x, "11 1 0", x::next);
        x.result(1, 1, 1);
        checks.refused("the last week", x, "14 1 0", x::next);
        checks.due("it stays", 1, () -> x.account(3));
        LeagueTables y = Ways.drawnOf(8);
        Ways.playTo(y, 13, 0, 0);
        Ways.playWeek(y, 0, 0);
        checks.refused("the last week that there can be", y, "14 13 0", y::next);
    }

    // ---- Promise 27: append

    private static void appending(Sentences s) {
        s.in("Promise 27");
        s.says("Appends a character to the text buffer.", ChangesTest::oneCharacterMore);
        s.says("Returns the new length of the buffer.", ChangesTest::newLength);
        s.says("Throws `IllegalStateException` if the buffer contains 60 characters", ChangesTest::bufferIsFull);
    }

    private static void oneCharacterMore() {
        LeagueTables x = Ways.drawnOf(2);
        x.append('t');
        x.append('4');
        checks.due("two", 2, () -> x.account(14));
        checks.due("the command that they are", 1, x::commands);
        checks.due("one rule", 1, () -> x.account(9));
        for (char sign : new char[] {0, 255, 256, Character.MAX_VALUE}) {
            checks.due("the character " + (int) sign, 1, () -> x.append(sign));
            checks.fails("no text begins with it", ARGUMENT, x::commands);
            checks.due("its fault position", 0, x::faultPosition);
        }
    }

    private static void newLength() {
        LeagueTables x = new LeagueTables();
        for (int length = 1; length <= 60; length++) {
            checks.due("length", length, () -> x.append(';'));
        }
        checks.fails("a fault", ARGUMENT, x::commands);
        checks.due("length behind commands", 1, () -> x.append('t'));
        x.commands();
        checks.due("and again", 1, () -> x.append('n'));
    }

    private static void bufferIsFull() {
        LeagueTables x = Ways.drawnOf(2);
        Ways.write(x, "t;".repeat(29));
        checks.due("the 59th", 59, () -> x.append('t'));
        checks.due("the 60th", 60, () -> x.append('4'));
        checks.fails("the 61st", STATE, () -> x.append('4'));
        checks.fails("and again", STATE, () -> x.append(';'));
        checks.due("60 are kept", 60, () -> x.account(14));
        checks.due("and can be carried out", 30, x::commands);
        checks.due("one rule by the last", 1, () -> x.account(9));
        checks.due("there is room then", 1, () -> x.append('t'));
    }

    // ---- Promise 28: commands

    private static void commands(Sentences s) {
        s.in("Promise 28");
        s.says("Carries out the commands in the text buffer, one after the other;", ChangesTest::oneAfterTheOther);
        s.says("if one is refused, none is carried out.", ChangesTest::noneIfOneIsRefused);
        s.says("The buffer is empty afterwards, also if an exception is thrown.", ChangesTest::emptyAfterwards);
        s.says("Returns the number of commands.", ChangesTest::numberOfCommands);
        s.says("Throws `IllegalArgumentException` if the text has a fault", ChangesTest::textHasAFault);
        s.says("Throws `UnsupportedOperationException` if a command is refused; the reason is kept",
            ChangesTest::commandIsRefused);
    }

    private static void oneAfterTheOther() {
        LeagueTables x = Ways.drawnOf(4);
        checks.due("six", 6, () -> Ways.carryOut(x, "m0=1:1;b0;m0=2:0;o1+1;n;o1+4"));
        checks.due("the later result", 2, () -> x.meetingOf(0, 4));
        checks.due("the week", 1, () -> x.account(3));
        checks.due("put off again from the later week", 5, () -> x.meetingOf(1, 0));
        checks.due("three", 3, () -> Ways.carryOut(x, "t01;t;t4"));
        checks.due("the latest rule", 1, () -> x.account(9));
        LeagueTables y = Ways.drawnOf(2);
        checks.refused("the other order", y, "11 0 0", () -> Ways.carryOut(y, "n;m0=1:1"));
    }

    private static void noneIfOneIsRefused() {
        String[] texts = {"n;t4", "t4;n", "t4;m0=9:9;b0;b0", "m0=1:1;n;m1=1:1;n", "o0+1;n;o0+1", "m0=1:1;m1=1:1;t3"};
        for (String text : texts) {
            LeagueTables x = Ways.drawnOf(2);
            String before = Ways.look(x);
            checks.fails(text, REFUSED, () -> Ways.carryOut(x, text));
            checks.note(text + ": none", Ways.look(x), before);
        }
        LeagueTables y = new LeagueTables();
        for (int i = 0; i < 8; i++) {
            y.rules(i % 5, -1, -1);
        }
        checks.fails("refused behind eight changes", REFUSED, () -> Ways.carryOut(y, "t;t01;t00"));
        checks.due("rules of before", 1, () -> y.account(9));
        for (int left = 7; left >= 0; left--) {
            checks.due("the eight can be undone", left, y::undo);
        }
        checks.due("to the first rules", 2, () -> y.account(9));
    }

    private static void emptyAfterwards() {
        LeagueTables x = Ways.drawnOf(2);
        Ways.carryOut(x, "t");
        checks.due("carried out", 0, () -> x.account(14));
        checks.fails("refused", REFUSED, () -> Ways.carryOut(x, "n"));
        checks.due("empty when refused", 0, () -> x.account(14));
        checks.fails("a fault", ARGUMENT, () -> Ways.carryOut(x, "tt"));
        checks.due("empty behind a fault", 0, () -> x.account(14));
        checks.fails("an empty one", ARGUMENT, x::commands);
        checks.due("empty still", 0, () -> x.account(14));
        checks.due("nothing of before is left", 1, () -> Ways.carryOut(x, "t1"));
    }

    private static void numberOfCommands() {
        LeagueTables x = Ways.drawnOf(2);
        checks.due("one", 1, () -> Ways.carryOut(x, "t"));
        checks.due("two", 2, () -> Ways.carryOut(x, "t;t"));
        checks.due("four", 4, () -> Ways.carryOut(x, "m0=10:10;n;m1=1:1;b01"));
        checks.due("thirty", 30, () -> Ways.carryOut(x, "t;".repeat(29) + "t"));
        checks.due("one again", 1, () -> Ways.carryOut(x, "t"));
        LeagueTables y = Ways.drawnOf(4);
        Ways.tell(y, 3, 3, 1, 1);
        order("by the goals", y, 0, 3, 1, 2);
        checks.due("thirty, the last of which counts", 30, () -> Ways.carryOut(y, "t;".repeat(29) + "t4"));
        order("by the goals away", y, 3, 1, 0, 2);
    }

    private static void textHasAFault() {
        LeagueTables x = Ways.drawnOf(2);
        for (String text : new String[] {"", "x", "m0=1:1;", "t5", "m0=1:100", "n;n;n;", ";"}) {
            checks.fails(text, ARGUMENT, () -> Ways.carryOut(x, text));
        }
        checks.fails("a fault behind what would be refused", ARGUMENT, () -> Ways.carryOut(x, "n;n;"));
        checks.fails("no reason is kept", NONE, () -> x.reason(0));
        checks.due("nothing is carried out", 0, () -> x.account(5));
        checks.fails("not drawn", ARGUMENT, () -> Ways.carryOut(new LeagueTables(), "m"));
    }

    private static void commandIsRefused() {
        LeagueTables x = Ways.drawnOf(4);
        checks.refused("3", x, "3 12 1", () -> Ways.carryOut(x, "t;m12=0:0"));
        checks.refused("1, goals at home", x, "1 0 0", () -> Ways.carryOut(x, "m0=21:0"));
        checks.refused("1, goals away", x, "1 0 0", () -> Ways.carryOut(x, "m0=0:21"));
        checks.refused("1, no weeks", x, "1 0 0", () -> Ways.carryOut(x, "o0+0"));
        checks.refused("1, ten weeks", x, "1 0 0", () -> Ways.carryOut(x, "o0+10"));
        checks.refused("8", x, "8 0 1", () -> Ways.carryOut(x, "m0=0:0;m0=0:0"));
        checks.refused("7", x, "7 1 0", () -> Ways.carryOut(x, "m2=0:0"));
        checks.refused("7 by a command before", x, "7 0 3", () -> Ways.carryOut(x, "m0=0:0;m1=0:0;n;b0"));
        checks.refused("9", x, "9 2 1", () -> Ways.carryOut(x, "o0+1;b0"));
        checks.refused("10", x, "10 6 0", () -> Ways.carryOut(x, "o0+6"));
        checks.refused("11", x, "11 1 1", () -> Ways.carryOut(x, "m0=0:0;n"));
        checks.refused("13", x, "13 4 2", () -> Ways.carryOut(x, "t;t01;t414"));
        LeagueTables y = Ways.drawnOf(2);
        checks.refused("14", y, "14 1 3", () -> Ways.carryOut(y, "m0=1:1;n;m1=1:1;n"));
        LeagueTables z = Ways.teams(0, 1);
        checks.refused("5, with an index", z, "5 0 2", () -> Ways.carryOut(z, "t;t;b99"));
    }

    // ---- Promise 29: faultPosition

    private static void faults(Sentences s) {
        s.in("Promise 29");
        s.says("Returns the fault position of the text of the latest call of commands.", ChangesTest::latestFault);
        s.says("Returns the fault position,", ChangesTest::eachFault);
        s.says("or -1 if that text had no fault or there was no such call.", ChangesTest::noFault);
    }

    private static void latestFault() {
        LeagueTables x = Ways.drawnOf(2);
        checks.fails("a fault", ARGUMENT, () -> Ways.carryOut(x, "t;x"));
        checks.due("its position", 2, x::faultPosition);
        checks.due("and again", 2, x::faultPosition);
        Ways.write(x, "tx");
        checks.due("a text that is only written", 2, x::faultPosition);
        checks.fails("another call", REFUSED, x::next);
        checks.due("it stays behind another call", 2, x::faultPosition);
        checks.fails("a fault", ARGUMENT, x::commands);
        checks.due("the later one", 1, x::faultPosition);
    }

    private static void eachFault() {
        String text = "m00=11:20;b01;o02+9;n;t123";
        for (int i = 0; i <= text.length(); i++) {
            LeagueTables x = Ways.drawnOf(2);
            int due = i;
            String cut = text.substring(0, i) + "?";
            checks.fails(cut, ARGUMENT, () -> Ways.carryOut(x, cut));
            checks.due(cut, due, x::faultPosition);
        }
        LeagueTables y = new LeagueTables();
        checks.fails("sixty signs", ARGUMENT, () -> Ways.carryOut(y, "t;".repeat(30)));
        checks.due("the length of a full buffer", 60, y::faultPosition);
        checks.fails("an empty one", ARGUMENT, y::commands);
        checks.due("the length of an empty buffer", 0, y::faultPosition);
    }

    private static void noFault() {
        LeagueTables x = Ways.drawnOf(2);
        checks.due("no call", -1, x::faultPosition);
        Ways.write(x, "?");
        checks.due("no call, but a text", -1, x::faultPosition);
        checks.fails("a fault", ARGUMENT, x::commands);
        Ways.carryOut(x, "t");
        checks.due("carried out", -1, x::faultPosition);
        checks.fails("a fault", ARGUMENT, () -> Ways.carryOut(x, "?"));
        checks.fails("refused", REFUSED, () -> Ways.carryOut(x, "n"));
        checks.due("refused, but without a fault", -1, x::faultPosition);
    }

    // ---- Promise 30: reason

    private static void reasons(Sentences s) {
        s.in("Promise 30");
        s.says("Returns a number of the reason that is kept.", ChangesTest::reasonThatIsKept);
        s.says("0 for the reason, 1 for its detail, 2 for the index of the command", ChangesTest::numbersOfTheReason);
        s.says("Returns the number.", ChangesTest::numbersOfTheReason);
        s.says("Throws `IllegalArgumentException` if what is not from 0 to 2", ChangesTest::noNumberOfAReason);
        s.says("Throws `NoSuchElementException` if nothing was refused", ChangesTest::nothingWasRefused);
    }

    private static void reasonThatIsKept() {
        LeagueTables x = Ways.teams(0);
        checks.fails("refused", REFUSED, () -> x.ground(3, 0));
        x.team(1);
        checks.note("behind a call that is not refused", Ways.reasonOf(x), "3 3 0");
        checks.fails("a call that throws something else", INDEX, () -> x.teamOf(9, 9));
        checks.note("behind that", Ways.reasonOf(x), "3 3 0");
        checks.fails("refused", REFUSED, x::next);
        checks.note("the later one", Ways.reasonOf(x), "5 0 0");
        x.undo();
        checks.note("behind undo", Ways.reasonOf(x), "5 0 0");
    }

    private static void numbersOfTheReason() {
        LeagueTables x = Ways.drawnOf(4);
        checks.fails("refused", REFUSED, () -> Ways.carryOut(x, "t;t;o0+8"));
        checks.due("reason", 10, () -> x.reason(0));
        checks.due("detail", 8, () -> x.reason(1));
        checks.due("command", 2, () -> x.reason(2));
        checks.fails("refused", REFUSED, () -> x.putOff(0, 7));
        checks.due("reason of another call", 10, () -> x.reason(0));
        checks.due("detail of another call", 7, () -> x.reason(1));
        checks.due("no command of another call", 0, () -> x.reason(2));
    }

    private static void noNumberOfAReason() {
        LeagueTables x = new LeagueTables();
        checks.fails("3, nothing refused", ARGUMENT, () -> x.reason(3));
        checks.fails("-1, nothing refused", ARGUMENT, () -> x.reason(-1));
        checks.fails("refused", REFUSED, x::draw);
        checks.fails("3", ARGUMENT, () -> x.reason(3));
        checks.fails("-1", ARGUMENT, () -> x.reason(-1));
        for (int wrong : FAR) {
            checks.fails("" + wrong, ARGUMENT, () -> x.reason(wrong));
        }
    }

    private static void nothingWasRefused() {
        LeagueTables x = Ways.drawnOf(2);
        for (int what = 0; what <= 2; what++) {
            int number = what;
            checks.fails("nothing, " + what, NONE, () -> x.reason(number));
        }
        checks.fails("a fault", ARGUMENT, () -> Ways.carryOut(x, "?"));
        checks.fails("a place", NONE, () -> x.ranked(7));
        checks.fails("nothing by those", NONE, () -> x.reason(0));
    }

    // ---- Promise 36: undo

    private static void undoing(Sentences s) {
        s.in("Promise 36");
        s.says("Undoes the latest call that can be undone.", ChangesTest::latestIsUndone);
        s.says("Returns the number of calls that can still be undone.", ChangesTest::stillToUndo);
        s.says("Throws `IllegalStateException` if there is none", ChangesTest::noneToUndo);
    }

    private static void latestIsUndone() {
        LeagueTables x = Ways.teams(1, 2);
        String teams = Ways.look(x);
        x.draw();
        String drawn = Ways.look(x);
        x.give(2, 1);
        x.result(0, 3, 0);
        String played = Ways.look(x);
        x.next();
        Ways.carryOut(x, "t4;m1=0:2");
        x.undo();
        x.undo();
        checks.note("next and commands", Ways.look(x), played);
        x.undo();
        x.undo();
        checks.note("result and give", Ways.look(x), drawn);
        x.undo();
        checks.note("draw", Ways.look(x), teams);
        checks.due("the second team", 1, x::undo);
        checks.due("one team", 1, () -> x.account(0));
        undoOfPutOffs();
    }

    private static void undoOfPutOffs() {
        LeagueTables x = Ways.drawnOf(4);
        x.putOff(0, 1);
        x.putOff(1, 1);
        x.next();
        x.putOff(0, 1);
        x.undo();
        checks.due("put off once", 1, () -> x.meetingOf(0, 0));
        checks.due("put off still", 2, () -> x.meetingOf(0, 3));
        x.undo();
        x.undo();
        checks.due("the other one is open", 0, () -> x.meetingOf(1, 0) + x.meetingOf(1, 3));
        checks.due("the first is not", 3, () -> x.meetingOf(0, 0) + x.meetingOf(0, 3));
    }

    private static void stillToUndo() {
        LeagueTables x = new LeagueTables();
        for (int i = 0; i < 8; i++) {
            x.team(i);
        }
        for (int left = 7; left >= 0; left--) {
            int due = left;
            checks.due("left", due, x::undo);
            checks.due("teams", due, () -> x.account(0));
            checks.due("the account", due, () -> x.account(13));
        }
        LeagueTables y = new LeagueTables();
        for (int i = 0; i < 9; i++) {
            y.rules(i % 5, -1, -1);
        }
        checks.due("nine changes, eight kept, seven left", 7, y::undo);
        y.rules(0, 1, 2);
        checks.due("eight again, seven left", 7, y::undo);
    }

    private static void noneToUndo() {
        LeagueTables x = new LeagueTables();
        checks.fails("at first", STATE, x::undo);
        x.team(0);
        x.undo();
        checks.fails("behind all", STATE, x::undo);
        checks.due("no team", 0, () -> x.account(0));
        checks.fails("a refused call", REFUSED, x::draw);
        checks.fails("a refused call is none", STATE, x::undo);
        LeagueTables y = Ways.teams(0);
        for (int i = 0; i < 9; i++) {
            y.ground(0, i);
        }
        for (int i = 0; i < 8; i++) {
            y.undo();
        }
        checks.fails("behind eight of ten", STATE, y::undo);
        checks.due("what was there before the eight", 0, () -> y.teamOf(0, 0));
    }

    // ---- Promise 37: save

    private static void saving(Sentences s) {
        s.in("Promise 37");
        s.says("Saves all that can be undone, in place of an earlier snapshot.", ChangesTest::allIsSaved);
        s.says("Returns the number of teams.", ChangesTest::teamsSaved);
    }

    private static void allIsSaved() {
        LeagueTables x = Ways.teams(4, 5);
        x.save();
        x.rules(4, 3, 2);
        x.give(2, 2);
        x.draw();
        x.putOff(0, 1);
        x.next();
        x.result(0, 7, 0);
        String before = Ways.look(x);
        x.save();
        x.result(1, 0, 9);
        x.rules(-1, -1, -1);
        x.ground(0, 0);
        x.restore();
        // The changes that can be undone do not come back.
        checks.note("all", withoutCount(Ways.look(x)), withoutCount(before));
        LeagueTables y = Ways.teams(1);
        y.save();
        y.ground(0, 2);
        y.save();
        y.ground(0, 3);
        y.restore();
        checks.due("in place of the earlier one", 2, () -> y.teamOf(0, 0));
        y.restore();
        checks.due("which is gone", 2, () -> y.teamOf(0, 0));
    }

    // The account 13 is the fourteenth number of a look.
    private static String withoutCount(String look) {
        String[] numbers = look.split(" ");
        numbers[13] = "";
        return String.join(" ", numbers);
    }

    private static void teamsSaved() {
        LeagueTables x = new LeagueTables();
        for (int teams = 0; teams <= 8; teams++) {
            checks.due("teams", teams, x::save);
            if (teams < 8) {
                x.team(0);
            }
        }
        x.draw();
        checks.due("drawn", 8, x::save);
        checks.due("save is no change", 8, () -> x.account(13));
        x.undo();
        checks.due("draw is what was undone", 0, () -> x.account(1));
    }

    // ---- Promise 38: restore

    private static void restoring(Sentences s) {
        s.in("Promise 38");
        s.says("Restores what was saved;", ChangesTest::whatWasSaved);
        s.says("the snapshot is kept.", ChangesTest::snapshotIsKept);
        s.says("Returns the number of teams.", ChangesTest::teamsRestored);
        s.says("Throws `IllegalStateException` if there is no snapshot", ChangesTest::noSnapshot);
    }

    private static void whatWasSaved() {
        LeagueTables x = new LeagueTables();
        String before = Ways.look(x);
        x.save();
        x.team(1);
        x.team(2);
        x.give(1, 3);
        x.rules(-1, 4, -1);
        x.draw();
        x.result(0, 1, 1);
        x.next();
        x.restore();
        checks.note("the empty league", Ways.look(x), before);
        checks.fails("no team", INDEX, () -> x.teamOf(0, 0));
        checks.fails("no week", INDEX, () -> x.meetingsIn(0));
        checks.fails("no meeting", INDEX, () -> x.meetingOf(0, 0));
        checks.due("a team can come again", 0, () -> x.team(7));
        rulesWereSaved();
        anotherDrawWasSaved();
    }

    private static void rulesWereSaved() {
        LeagueTables x = Ways.drawnOf(4);
        Ways.tell(x, 2, 0, 5, 4);
        x.rules(1, -1, 0);
        x.save();
        x.rules(4, 0, -1);
        order("goals away, then the lead", x, 0, 2, 1, 3);
        x.restore();
        order("the goals, as saved", x, 2, 0, 1, 3);
        x.rules(0, -1, 1);
        x.undo();
        order("the goals, as before what is undone", x, 2, 0, 1, 3);
    }

    // The meetings of one number of teams must not be left where those of another come back.
    private static void anotherDrawWasSaved() {
        LeagueTables x = Ways.drawnOf(5);
        x.putOff(0, 9);
        x.save();
        for (int i = 0; i < 5; i++) {
            x.undo();
        }
        x.draw();
        checks.due("meetings of two", 2, () -> x.account(4));
        x.restore();
        checks.due("meetings of five", 20, () -> x.account(4));
        checks.due("weeks of five", 10, () -> x.account(2));
        checks.due("the last bye", 4, () -> x.byeIn(9));
        checks.due("the last meeting", 19, () -> x.find(2, 1));
        checks.due("one put off", 9, () -> x.meetingOf(0, 0));
    }

    private static void snapshotIsKept() {
        LeagueTables x = Ways.drawnOf(2);
        x.save();
        String before = withoutCount(Ways.look(x));
        x.result(0, 2, 2);
        x.restore();
        checks.note("once", withoutCount(Ways.look(x)), before);
        x.result(0, 3, 2);
        x.rules(4, -1, -1);
        x.restore();
        checks.note("twice", withoutCount(Ways.look(x)), before);
        x.putOff(0, 1);
        x.undo();
        x.result(0, 1, 0);
        x.undo();
        checks.due("undo behind restore", 0, () -> x.account(13));
        x.restore();
        checks.note("and again", withoutCount(Ways.look(x)), before);
    }

    private static void teamsRestored() {
        LeagueTables x = new LeagueTables();
        x.save();
        x.team(0);
        checks.due("none", 0, x::restore);
        x.team(0);
        x.team(0);
        x.save();
        x.team(0);
        checks.due("two", 2, x::restore);
        checks.due("the account", 2, () -> x.account(0));
        LeagueTables y = Ways.drawnOf(8);
        y.save();
        y.undo();
        y.undo();
        checks.due("eight", 8, y::restore);
    }

    private static void noSnapshot() {
        LeagueTables x = Ways.teams(0, 1);
        checks.fails("none", STATE, x::restore);
        checks.due("the changes are kept", 2, () -> x.account(13));
        checks.due("and the teams", 2, () -> x.account(0));
        x.save();
        checks.due("one", 2, x::restore);
        checks.fails("none of another object", STATE, () -> new LeagueTables().restore());
    }
}
