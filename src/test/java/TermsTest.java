import java.io.IOException;
import java.util.NoSuchElementException;

/** The terms of the document, sentence by sentence, with the edges that each of them names. */
public final class TermsTest {
    private static final Class<UnsupportedOperationException> REFUSED = UnsupportedOperationException.class;
    private static final Class<IndexOutOfBoundsException> INDEX = IndexOutOfBoundsException.class;
    private static final Class<IllegalArgumentException> ARGUMENT = IllegalArgumentException.class;
    private static final Class<IllegalStateException> STATE = IllegalStateException.class;
    private static final Class<NoSuchElementException> NONE = NoSuchElementException.class;
    private static final Class<ArithmeticException> ARITHMETIC = ArithmeticException.class;
    private static final Checks checks = new Checks("terms");

    public static void main(String[] args) throws IOException {
        Sentences s = new Sentences(checks, args.length == 0 ? "." : args[0]);
        s.in("Terms");
        rounds(s);
        meetings(s);
        table(s);
        texts(s);
        reasons(s);
        changes(s);
        details(s);
        s.end();
        checks.end();
    }

    // ---- Teams and rounds

    private static void rounds(Sentences s) {
        s.says("Each pair meets once at home and once away.", TermsTest::eachPair);
        s.says("Divisions are rounded down, unless something else is told.", TermsTest::roundedDown);
        s.says("Teams. There are at most 8 teams, numbered from 0,", TermsTest::eightTeams);
        s.says("each with a ground from 0 to 9,", TermsTest::groundsToNine);
        s.says("which can be that of other teams, too.", TermsTest::groundOfOthers);
        s.says("Rounds. To draw the league makes weeks and meetings.", TermsTest::weeksAndMeetings);
        s.says("The teams stand at places with their numbers; if their number is odd, a place more, behind the last"
            + " one, stands for a bye.", TermsTest::placeOfTheBye);
        s.says("Let n be the number of places.", TermsTest::numberOfPlaces);
        s.says("In the week w of the first half, from 0 to n less 2, the place n less 1 meets the place w, and is at"
            + " home if w is odd;", () -> lastPlace(1));
        s.says("and for each k from 1 to n / 2 less 1, the place x, which is the remainder of w and k together by n"
            + " less 1, meets the place y, which is the remainder of w and n less 1 less k together by n less 1, where"
            + " y is at home if k is odd, and x if it is even.", TermsTest::otherPlaces);
        s.says("Where the place n less 1 meets the place w and w is even, w is at home.", () -> lastPlace(0));
        s.says("In the second half, as many weeks come again in the same order, with the other place at home in each"
            + " pair.", TermsTest::secondHalf);
        s.says("A team that meets the place of a bye has a bye in that week.", TermsTest::byes);
    }

    private static void eachPair() {
        for (int n = 2; n <= 8; n++) {
            LeagueTables x = Ways.drawnOf(n);
            int[] seen = new int[n * n];
            for (int m = 0; m < x.account(4); m++) {
                seen[n * x.meetingOf(m, 1) + x.meetingOf(m, 2)]++;
            }
            for (int home = 0; home < n; home++) {
                for (int away = 0; away < n; away++) {
                    checks.note(n + " teams, " + home + " at home to " + away, "" + seen[n * home + away],
                        home == away ? "0" : "1");
                }
            }
        }
    }

    private static void roundedDown() {
        for (int n = 2; n <= 8; n++) {
            LeagueTables x = Ways.drawnOf(n);
            for (int w = 0; w < x.account(2); w++) {
                int week = w;
                checks.due(n + " teams, meetings of the week " + w, n / 2, () -> x.meetingsIn(week));
            }
        }
    }

    private static void eightTeams() {
        LeagueTables x = new LeagueTables();
        for (int team = 0; team < 8; team++) {
            checks.due("number", team, () -> x.team(0));
        }
        checks.refused("a ninth", x, "2 8 0", () -> x.team(0));
        checks.due("eight", 8, () -> x.account(0));
        checks.due("the last one", 0, () -> x.teamOf(7, 0));
        checks.fails("none has the number 8", INDEX, () -> x.teamOf(8, 0));
        checks.fails("none has the number -1", INDEX, () -> x.teamOf(-1, 0));
        x.undo();
        checks.due("an eighth again", 7, () -> x.team(9));
        checks.due("eight are drawn", 14, x::draw);
    }

    private static void groundsToNine() {
        LeagueTables x = new LeagueTables();
        checks.due("the ground 0", 0, () -> x.team(0));
        checks.due("the ground 9", 1, () -> x.team(9));
        checks.due("the ground 9 in place of 0", 0, () -> x.ground(0, 9));
        checks.due("the ground 0 in place of 9", 9, () -> x.ground(1, 0));
        for (int wrong : new int[] {-1, 10, Integer.MIN_VALUE, Integer.MAX_VALUE}) {
            checks.refused("a team with the ground " + wrong, x, "1 0 0", () -> x.team(wrong));
            checks.refused("the ground " + wrong, x, "1 0 0", () -> x.ground(0, wrong));
        }
        checks.due("two teams", 2, () -> x.account(0));
        checks.due("the ground that was given", 9, () -> x.teamOf(0, 0));
    }

    private static void groundOfOthers() {
        LeagueTables x = Ways.teams(3, 3, 3, 3, 3, 3, 3, 3);
        for (int t = 0; t < 8; t++) {
            int team = t;
            checks.due("ground of " + t, 3, () -> x.teamOf(team, 0));
        }
        x.ground(4, 6);
        checks.due("that of another one", 3, () -> x.ground(5, 6));
    }

    private static void weeksAndMeetings() {
        LeagueTables x = Ways.teams(0, 1, 2);
        checks.due("no weeks", 0, () -> x.account(2));
        checks.due("no meetings", 0, () -> x.account(4));
        checks.fails("not the week 0", INDEX, () -> x.meetingsIn(0));
        checks.fails("not the meeting 0", INDEX, () -> x.meetingOf(0, 0));
        x.draw();
        checks.due("weeks", 6, () -> x.account(2));
        checks.due("meetings", 6, () -> x.account(4));
        checks.due("the last week", 1, () -> x.meetingsIn(5));
        checks.due("the last meeting", 5, () -> x.meetingOf(5, 0));
        checks.fails("not the week 6", INDEX, () -> x.meetingsIn(6));
        checks.fails("not the meeting 6", INDEX, () -> x.meetingOf(6, 0));
    }

    private static void placeOfTheBye() {
        for (int n = 2; n <= 8; n++) {
            LeagueTables x = Ways.drawnOf(n);
            for (int w = 0; w < x.account(2); w++) {
                int week = w;
                if (n % 2 == 0) {
                    checks.fails(n + " teams, no bye in " + w, NONE, () -> x.byeIn(week));
                } else {
                    checks.due(n + " teams, bye in " + w, w % n, () -> x.byeIn(week));
                }
            }
        }
    }

    private static void numberOfPlaces() {
        int[] places = {2, 4, 4, 6, 6, 8, 8};
        for (int n = 2; n <= 8; n++) {
            LeagueTables x = Ways.drawnOf(n);
            int last = 2 * (places[n - 2] - 1) - 1;
            checks.due(n + " teams, weeks", last + 1, () -> x.account(2));
            checks.due(n + " teams, the last week", n / 2, () -> x.meetingsIn(last));
            checks.fails(n + " teams, a week more", INDEX, () -> x.meetingsIn(last + 1));
        }
    }

    // The weeks w that leave the remainder told by 2.
    private static void lastPlace(int remainder) {
        for (int n = 2; n <= 8; n += 2) {
            LeagueTables x = Ways.drawnOf(n);
            for (int w = remainder; w <= n - 2; w += 2) {
                int home = w % 2 == 1 ? n - 1 : w;
                int away = w % 2 == 1 ? w : n - 1;
                checks.due(n + " teams, " + home + " at home to " + away, w, () -> x.meetingOf(x.find(home, away), 0));
            }
        }
        checks.due("the first week of two", 0, () -> Ways.drawnOf(2).find(0, 1));
    }

    private static void otherPlaces() {
        for (int teams = 3; teams <= 8; teams++) {
            LeagueTables x = Ways.drawnOf(teams);
            int n = teams + teams % 2;
            for (int w = 0; w <= n - 2; w++) {
                for (int k = 1; k <= n / 2 - 1; k++) {
                    int one = (w + k) % (n - 1);
                    int other = (w + n - 1 - k) % (n - 1);
                    int home = k % 2 == 1 ? other : one;
                    int away = k % 2 == 1 ? one : other;
                    checks.due(teams + " teams, " + home + " at home to " + away, w,
                        () -> x.meetingOf(x.find(home, away), 0));
                }
            }
        }
    }

    private static void secondHalf() {
        for (int n = 2; n <= 8; n++) {
            LeagueTables x = Ways.drawnOf(n);
            int half = x.account(2) / 2;
            for (int m = 0; m < n * (n - 1) / 2; m++) {
                int home = x.meetingOf(m, 1);
                int away = x.meetingOf(m, 2);
                checks.due(n + " teams, " + away + " at home to " + home, half + x.meetingOf(m, 0),
                    () -> x.meetingOf(x.find(away, home), 0));
            }
        }
    }

    private static void byes() {
        byesOf(3);
        byesOf(5);
        byesOf(7);
    }

    private static void byesOf(int n) {
        LeagueTables x = Ways.drawnOf(n);
        checks.due(n + " teams, the first bye", 0, () -> x.byeIn(0));
        checks.due(n + " teams, the last bye of the first half", n - 1, () -> x.byeIn(n - 1));
        checks.due(n + " teams, the first bye of the second half", 0, () -> x.byeIn(n));
        checks.due(n + " teams, the last bye", n - 1, () -> x.byeIn(2 * n - 1));
        checks.fails(n + " teams, no week more", INDEX, () -> x.byeIn(2 * n));
        checks.fails(n + " teams, no week before", INDEX, () -> x.byeIn(-1));
    }

    // ---- Meetings

    private static void meetings(Sentences s) {
        s.says("Meetings. The meetings are numbered from 0, by weeks, and in each week by the teams at home.",
            TermsTest::numbered);
        s.says("A meeting is open, 0, played, 1, or put off, 2.", TermsTest::howMeetingsAre);
        s.says("A played one has goals of the team at home and of that away, each from 0 to 20.",
            TermsTest::goalsToTwenty);
        s.says("The present week is 0 when the league is drawn.", TermsTest::firstWeek);
        s.says("A meeting that is put off belongs to a later week then, in place of its own,", TermsTest::laterWeek);
        s.says("and can be played or put off again in that one.", TermsTest::inThatOne);
    }

    private static void numbered() {
        for (int n = 2; n <= 8; n++) {
            LeagueTables x = Ways.drawnOf(n);
            int count = n * (n - 1);
            int before = -1;
            for (int m = 0; m < count; m++) {
                int place = 8 * x.meetingOf(m, 0) + x.meetingOf(m, 1);
                checks.yes(n + " teams, the meeting " + m + " behind that before", place > before);
                before = place;
            }
            checks.due(n + " teams, week of the first", 0, () -> x.meetingOf(0, 0));
            checks.due(n + " teams, week of the last", x.account(2) - 1, () -> x.meetingOf(count - 1, 0));
            checks.fails(n + " teams, no meeting more", INDEX, () -> x.meetingOf(count, 0));
            checks.fails(n + " teams, no meeting before", INDEX, () -> x.meetingOf(-1, 0));
        }
    }

    private static void howMeetingsAre() {
        LeagueTables x = Ways.drawnOf(4);
        checks.due("open", 0, () -> x.meetingOf(0, 3));
        x.putOff(0, 5);
        checks.due("put off", 2, () -> x.meetingOf(0, 3));
        Ways.playTo(x, 5, 1, 1);
        checks.due("put off still in its new week", 2, () -> x.meetingOf(0, 3));
        x.result(0, 0, 0);
        checks.due("played", 1, () -> x.meetingOf(0, 3));
        checks.due("played without being put off", 1, () -> x.meetingOf(1, 3));
        checks.due("the last one is open", 0, () -> x.meetingOf(11, 3));
    }

    private static void goalsToTwenty() {
        LeagueTables x = Ways.drawnOf(8);
        int[][] right = {{0, 20}, {20, 0}, {20, 20}, {0, 0}};
        for (int i = 0; i < right.length; i++) {
            int m = i;
            checks.due("told", 3 - i, () -> x.result(m, right[m][0], right[m][1]));
            checks.due("goals at home", right[i][0], () -> x.meetingOf(m, 4));
            checks.due("goals away", right[i][1], () -> x.meetingOf(m, 5));
        }
        LeagueTables y = Ways.drawnOf(2);
        for (int wrong : new int[] {-1, 21, Integer.MIN_VALUE, Integer.MAX_VALUE}) {
            checks.refused("goals at home: " + wrong, y, "1 0 0", () -> y.result(0, wrong, 0));
            checks.refused("goals away: " + wrong, y, "1 0 0", () -> y.result(0, 20, wrong));
        }
        checks.due("none is played", 0, () -> y.account(5));
        checks.due("no goals at home", -1, () -> y.meetingOf(0, 4));
        checks.due("no goals away", -1, () -> y.meetingOf(0, 5));
    }

    private static void firstWeek() {
        LeagueTables x = Ways.drawnOf(2);
        checks.due("the present week", 0, () -> x.account(3));
        checks.due("a meeting of the week 0 can be played", 0, () -> x.result(0, 1, 0));
        LeagueTables y = Ways.teams(0, 1);
        y.save();
        y.draw();
        Ways.playTo(y, 1, 1, 0);
        y.restore();
        y.draw();
        checks.due("the present week when drawn again", 0, () -> y.account(3));
        checks.due("nothing is played when drawn again", 0, () -> y.account(5) + y.meetingOf(0, 3));
        checks.due("the first can be played again", 0, () -> y.result(0, 1, 0));
    }

    private static void laterWeek() {
        LeagueTables x = Ways.drawnOf(4);
        x.putOff(1, 2);
        checks.due("its week", 2, () -> x.meetingOf(1, 0));
        checks.due("the week for which it was drawn", 0, () -> x.meetingOf(1, 6));
        checks.due("one less in its own", 1, () -> x.meetingsIn(0));
        checks.due("one more in the later one", 3, () -> x.meetingsIn(2));
        checks.refused("it cannot be played in its own", x, "7 2 0", () -> x.result(1, 0, 0));
        x.result(0, 0, 0);
        checks.due("it does not hold up its own", 1, x::next);
        checks.refused("nor can it be played on the way", x, "7 2 0", () -> x.result(1, 0, 0));
    }

    private static void inThatOne() {
        LeagueTables x = Ways.drawnOf(4);
        x.putOff(0, 1);
        x.putOff(1, 1);
        x.next();
        checks.due("played", 3, () -> x.result(0, 2, 2));
        // In the week 2 the teams 1 and 2 are at home, the latter in this one, too.
        checks.due("put off again", 1, () -> x.putOff(1, 1));
        checks.due("put off again: how it is", 2, () -> x.meetingOf(1, 3));
        checks.due("put off again: its week", 2, () -> x.meetingOf(1, 0));
        Ways.playTo(x, 2, 0, 0);
        checks.due("and again", 0, () -> x.putOff(1, 3));
        Ways.playTo(x, 5, 0, 0);
        checks.refused("behind the last week there is none", x, "10 6 0", () -> x.putOff(1, 1));
        checks.due("played in the last week", 2, () -> x.result(1, 1, 0));
    }

    // ---- Points, table and grounds

    private static void table(Sentences s) {
        s.says("Points. A win gives 3 points, and a draw 1, at first; a loss gives none.", TermsTest::pointsAtFirst);
        s.says("Table. Teams are ranked by points, the one with more first.", TermsTest::byPoints);
        s.says("Those with the same points are told apart by at most 3 rules, one after the other, by more first:",
            TermsTest::threeRules);
        s.says("0, the goals that they made less those made against them;", TermsTest::ruleOfLead);
        s.says("1, the goals that they made;", TermsTest::ruleOfGoals);
        s.says("2, their wins;", TermsTest::ruleOfWins);
        s.says("3, the points that they have of meetings with teams that have the same points as they;",
            TermsTest::ruleAmongTied);
        s.says("4, the goals that they made away.", TermsTest::ruleOfGoalsAway);
        s.says("At first the rules are 0 and 1.", TermsTest::rulesAtFirst);
        s.says("What is left is told apart by their numbers, the lower one first.", TermsTest::byNumbers);
        s.says("Grounds. Two meetings of a week clash if the teams at home have the same ground.",
            TermsTest::sameGround);
    }

    private static void ranks(String call, LeagueTables x, int... due) {
        for (int p = 0; p < due.length; p++) {
            int place = p;
            checks.due(call + ": at the place " + p, due[p], () -> x.ranked(place));
            checks.due(call + ": place of " + due[p], p, () -> x.placeOf(due[place]));
        }
    }

    private static void pointsAtFirst() {
        LeagueTables x = Ways.drawnOf(2);
        checks.due("before any meeting", 0, () -> x.teamOf(0, 1) + x.teamOf(1, 1));
        Ways.tell(x, 1, 0);
        checks.due("a win", 3, () -> x.teamOf(0, 1));
        checks.due("a loss", 0, () -> x.teamOf(1, 1));
        LeagueTables y = Ways.drawnOf(2);
        Ways.tell(y, 2, 2);
        checks.due("a draw at home", 1, () -> y.teamOf(0, 1));
        checks.due("a draw away", 1, () -> y.teamOf(1, 1));
        checks.due("what they give", 31, () -> Ways.teams().give(3, 1));
    }

    // Four teams: 0 at home to 3, 2 to 1; 0 to 2, 3 to 1; 1 to 0, 2 to 3.
    private static LeagueTables four(int... goals) {
        LeagueTables x = Ways.drawnOf(4);
        Ways.tell(x, goals);
        return x;
    }

    private static void byPoints() {
        // The team 1 wins once and loses high; 0 and 3 share the points, with better goals.
        ranks("more points go ahead of goals", four(9, 9, 0, 1, 2, 2, 20, 0), 3, 1, 0, 2);
        ranks("without a meeting", Ways.teams(0, 0, 0), 0, 1, 2);
    }

    private static void threeRules() {
        LeagueTables x = four(1, 1, 2, 2);
        x.rules(0, 1, 4);
        ranks("the third tells", x, 1, 2, 3, 0);
        x.rules(0, 1, -1);
        ranks("two of them", x, 1, 2, 0, 3);
        x.rules(4, 1, 0);
        ranks("the first tells, then the second", x, 1, 3, 2, 0);
        checks.due("three can be told", 3, () -> x.rules(2, 3, 4));
        checks.due("and as a text", 1, () -> Ways.carryOut(x, "t321"));
        checks.fails("but not four", ARGUMENT, () -> Ways.carryOut(x, "t3210"));
        checks.due("three are left", 3, () -> x.account(9));
    }

    private static void ruleOfLead() {
        LeagueTables x = four(1, 0, 20, 0);
        x.rules(0, -1, -1);
        ranks("a higher lead first, a deeper one last", x, 2, 0, 3, 1);
        checks.due("the highest", 20, () -> x.valueOf(2, 0));
        checks.due("the deepest", -20, () -> x.valueOf(1, 0));
    }

    private static void ruleOfGoals() {
        LeagueTables x = four(0, 1, 1, 3);
        x.rules(1, -1, -1);
        ranks("more goals first", x, 1, 3, 2, 0);
        checks.due("goals at home", 1, () -> x.valueOf(2, 1));
        checks.due("goals away", 3, () -> x.valueOf(1, 1));
    }

    private static void ruleOfWins() {
        LeagueTables x = Ways.teams(0, 1, 2, 3);
        x.give(2, 1);
        x.draw();
        Ways.tell(x, 0, 0, 0, 1, 0, 0, 1, 0);
        x.rules(2, -1, -1);
        ranks("a win ahead of two draws", x, 3, 1, 0, 2);
        checks.due("two draws are no win", 0, () -> x.valueOf(0, 2));
        checks.due("a win away", 1, () -> x.valueOf(1, 2));
    }

    private static void ruleAmongTied() {
        LeagueTables x = four(4, 0, 1, 0, 0, 1, 1, 0, 1, 0, 0, 1);
        x.rules(3, -1, -1);
        ranks("who won against the other", x, 3, 2, 1, 0);
        int[] due = {0, 3, 0, 3};
        for (int t = 0; t < 4; t++) {
            int team = t;
            checks.due("points of " + t, due[t], () -> x.valueOf(team, 3));
        }
        x.rules(0, -1, -1);
        ranks("the other way round by another rule", x, 2, 3, 0, 1);
        LeagueTables y = four(1, 1, 2, 2);
        checks.due("all four are tied", 1, () -> y.valueOf(3, 3));
        checks.due("none is tied with another", 0, () -> four(1, 0).valueOf(0, 3));
    }

    private static void ruleOfGoalsAway() {
        LeagueTables x = four(3, 3, 1, 1);
        x.rules(4, -1, -1);
        ranks("goals at home do not count", x, 3, 1, 0, 2);
        checks.due("none made away", 0, () -> x.valueOf(0, 4));
        checks.due("made away", 3, () -> x.valueOf(3, 4));
    }

    private static void rulesAtFirst() {
        checks.due("two", 2, () -> new LeagueTables().account(9));
        ranks("0 ahead of 1", four(2, 0, 5, 4), 0, 2, 1, 3);
        ranks("1 behind 0", four(1, 0, 5, 4), 2, 0, 1, 3);
        ranks("no third one", four(0, 0, 0, 0), 0, 1, 2, 3);
        ranks("goals away do not count", four(2, 2, 2, 2), 0, 1, 2, 3);
    }

    private static void byNumbers() {
        ranks("eight without a meeting", Ways.teams(7, 6, 5, 4, 3, 2, 1, 0), 0, 1, 2, 3, 4, 5, 6, 7);
        LeagueTables x = four(0, 3, 0, 1);
        x.rules(-1, -1, -1);
        ranks("no rules: winners, then losers", x, 1, 3, 0, 2);
    }

    private static void sameGround() {
        LeagueTables x = Ways.drawn(5, 1, 5, 5);
        checks.due("0 and 2 at home", 1, () -> x.clashes(0));
        checks.due("0 and 3 at home", 1, () -> x.clashes(1));
        checks.due("1 and 2 at home", 0, () -> x.clashes(2));
        LeagueTables y = Ways.drawn(5, 5, 6, 6);
        checks.due("the same ground only away", 0, () -> y.clashes(0));
        checks.due("ground 0 is one, too", 1, () -> Ways.drawn(0, 1, 0, 1).clashes(0));
        checks.due("ground 9", 1, () -> Ways.drawn(9, 1, 9, 1).clashes(0));
        checks.due("not with those of another week", 0, () -> Ways.drawn(3, 3).clashes(0));
    }

    // ---- Texts

    private static void texts(Sentences s) {
        s.says("Texts. The text buffer holds one or more commands with \";\" between them:", TermsTest::oneOrMore);
        s.says("\"m\", a meeting, \"=\", the goals at home, \":\" and those away for a result;", TermsTest::textOfResult);
        s.says("\"b\" and a meeting to take its result back;", TermsTest::textOfBack);
        s.says("\"o\", a meeting, \"+\" and a number of weeks to put it off;", TermsTest::textOfPutOff);
        s.says("\"n\" for the next week;", TermsTest::textOfNext);
        s.says("and \"t\" and 0 to 3 digits for the rules.", TermsTest::textOfRules);
        s.says("Meetings, goals and weeks have 1 or 2 digits;", TermsTest::oneOrTwoDigits);
        s.says("the digits of rules are 0 to 4.", TermsTest::digitsOfRules);
        s.says("The fault position of a text is the index of its first character that cannot continue such a text,",
            TermsTest::firstFault);
        s.says("or the length of the text if it ends too early.", TermsTest::endsTooEarly);
        s.says("The commands are carried out as the methods would, all of them or none.", TermsTest::allOrNone);
    }

    private static void fault(String text, int due) {
        LeagueTables x = Ways.drawnOf(4);
        checks.fails(text, ARGUMENT, () -> Ways.carryOut(x, text));
        checks.due(text + ": fault position", due, x::faultPosition);
        checks.fails(text + ": no reason", NONE, () -> x.reason(0));
    }

    private static void right(String text, int due) {
        LeagueTables x = Ways.drawnOf(4);
        checks.due(text, due, () -> Ways.carryOut(x, text));
        checks.due(text + ": no fault", -1, x::faultPosition);
    }

    // A text without a fault whose first command is refused.
    private static void refusedText(String text, String reason) {
        LeagueTables x = Ways.drawnOf(4);
        checks.refused(text, x, reason, () -> Ways.carryOut(x, text));
        checks.due(text + ": no fault", -1, x::faultPosition);
    }

    private static void oneOrMore() {
        fault("", 0);
        right("t", 1);
        right("t;t", 2);
        right("t;".repeat(29) + "t4", 30);
        fault("t;".repeat(30), 60);
        fault(";", 0);
        fault(";t", 0);
        fault("t;;t", 2);
        fault("t,t", 1);
        fault("tt", 1);
        fault("t ;t", 1);
    }

    private static void textOfResult() {
        LeagueTables x = Ways.drawnOf(4);
        checks.due("a result", 1, () -> Ways.carryOut(x, "m1=3:20"));
        checks.due("goals at home", 3, () -> x.meetingOf(1, 4));
        checks.due("goals away", 20, () -> x.meetingOf(1, 5));
        fault("m0:1=1", 2);
        fault("m0=1", 4);
        fault("m0=1;", 4);
        fault("M0=1:1", 0);
    }

    private static void textOfBack() {
        LeagueTables x = Ways.drawnOf(4);
        x.result(1, 2, 2);
        checks.due("back", 1, () -> Ways.carryOut(x, "b1"));
        checks.due("open again", 0, () -> x.meetingOf(1, 3));
        checks.due("no goals at home", -1, () -> x.meetingOf(1, 4));
        checks.due("no goals away", -1, () -> x.meetingOf(1, 5));
        fault("b", 1);
        fault("b;", 1);
        fault("b1+1", 2);
    }

    private static void textOfPutOff() {
        LeagueTables x = Ways.drawnOf(4);
        checks.due("put off", 1, () -> Ways.carryOut(x, "o1+5"));
        checks.due("its week", 5, () -> x.meetingOf(1, 0));
        fault("o1", 2);
        fault("o1-1", 2);
        fault("o+1", 1);
        fault("o1+-1", 3);
    }

    private static void textOfNext() {
        LeagueTables x = Ways.drawnOf(4);
        Ways.playWeek(x, 1, 1);
        checks.due("next", 1, () -> Ways.carryOut(x, "n"));
        checks.due("the week", 1, () -> x.account(3));
        fault("n1", 1);
        fault("nn", 1);
    }

    private static void textOfRules() {
        String[] texts = {"t", "t4", "t43", "t432"};
        for (int i = 0; i < texts.length; i++) {
            LeagueTables x = Ways.drawnOf(4);
            String text = texts[i];
            checks.due(text, 1, () -> Ways.carryOut(x, text));
            checks.due(text + ": rules", i, () -> x.account(9));
        }
        LeagueTables y = four(1, 1, 2, 2);
        Ways.carryOut(y, "t410");
        ranks("in their order", y, 1, 3, 2, 0);
        Ways.carryOut(y, "t");
        ranks("none", y, 0, 1, 2, 3);
        fault("t0123", 4);
        fault("t-1", 1);
    }

    private static void oneOrTwoDigits() {
        right("m0=0:0;m1=0:0", 2);
        right("m00=00:00;m01=20:20", 2);
        refusedText("m99=0:0", "3 99 0");
        refusedText("m0=99:0", "1 0 0");
        refusedText("m0=0:99", "1 0 0");
        refusedText("b99", "3 99 0");
        refusedText("o99+1", "3 99 0");
        refusedText("o0+99", "1 0 0");
        fault("m=0:0", 1);
        fault("m000=0:0", 3);
        fault("m0=:0", 3);
        fault("m0=000:0", 5);
        fault("m0=0:", 5);
        fault("m0=0:000", 7);
        fault("b", 1);
        fault("b000", 3);
        fault("o+1", 1);
        fault("o000+1", 3);
        fault("o0+", 3);
        fault("o0+001", 5);
        right("o0+01;o1+1", 2);
        // The signs beside the digits are none.
        fault("m/", 1);
        fault("m:", 1);
        fault("m0/", 2);
        fault("m0:", 2);
        fault("m0=0/", 4);
        fault("o0+9:", 4);
    }

    private static void digitsOfRules() {
        right("t0;t1;t2;t3;t4", 5);
        right("t014", 1);
        right("t041", 1);
        right("t401", 1);
        refusedText("t000", "13 0 0");
        LeagueTables x = Ways.drawnOf(2);
        for (String text : new String[] {"t012", "t123", "t234", "t340", "t401"}) {
            checks.due(text, 1, () -> Ways.carryOut(x, text));
            checks.due(text + ": three rules", 3, () -> x.account(9));
        }
        fault("t5", 1);
        fault("t05", 2);
        fault("t019", 3);
        fault("t/", 1);
        fault("t9", 1);
    }

    private static void firstFault() {
        fault("x", 0);
        fault("0", 0);
        fault("m0=0:0;x", 7);
        fault("m0=0:0;m1=0:0x;y", 13);
        fault("n ", 1);
        fault(" n", 0);
        fault("n\n", 1);
        fault("n" + (char) 0, 1);
        fault((char) 255 + "n", 0);
        fault("t4" + Character.MAX_VALUE, 2);
        fault("c", 0);
        fault("l", 0);
        fault("p", 0);
        fault("s", 0);
        fault("u", 0);
        fault("t;".repeat(29) + "tx", 59);
        fault("m0" + (char) ('=' + 256) + "1:1", 2);
    }

    private static void endsTooEarly() {
        fault("", 0);
        fault("m", 1);
        fault("m0", 2);
        fault("m00", 3);
        fault("m0=", 3);
        fault("m0=1", 4);
        fault("m0=1:", 5);
        fault("b", 1);
        fault("o", 1);
        fault("o0", 2);
        fault("o0+", 3);
        fault("n;", 2);
        fault("t;".repeat(29) + "m0", 60);
        fault("t;".repeat(28) + "t41m", 59);
    }

    private static void allOrNone() {
        LeagueTables x = Ways.drawnOf(2);
        checks.due("all", 3, () -> Ways.carryOut(x, "m0=1:0;n;m1=2:2"));
        checks.due("all results", 2, () -> x.account(5));
        String before = Ways.look(x);
        checks.fails("the last one is refused", REFUSED, () -> Ways.carryOut(x, "b1;t;m1=3:3;n;n"));
        checks.note("none", Ways.look(x), before);
        checks.fails("the last one has a fault", ARGUMENT, () -> Ways.carryOut(x, "b1;t;m1=3:3;q"));
        checks.due("none of a text with a fault", 2, () -> x.meetingOf(1, 4));
        checks.due("rules of before", 2, () -> x.account(9));
        checks.refused("as the methods would", x, "14 1 1", () -> Ways.carryOut(x, "t;n"));
        checks.due("rules of before still", 2, () -> x.account(9));
        LeagueTables y = four(2, 0, 5, 4);
        checks.fails("other rules, then a refusal", REFUSED, () -> Ways.carryOut(y, "t10;n;n"));
        ranks("by the rules of before", y, 0, 2, 1, 3);
    }

    // ---- Reasons

    private static void reasons(Sentences s) {
        s.says("Reasons. Something is refused for the first that applies of the reasons that its method names, in the"
            + " order in which it names them:", TermsTest::firstThatApplies);
        s.says("1, a number is out of range;", TermsTest::outOfRange);
        s.says("2, there would be more than there can be: how many there can be;", TermsTest::moreThanThereCanBe);
        s.says("3, there is no such team or meeting: its number;", TermsTest::notThere);
        s.says("4, the league is drawn;", TermsTest::isDrawn);
        s.says("5, the league is not drawn;", TermsTest::isNotDrawn);
        s.says("6, there are fewer than 2 teams: how many;", TermsTest::fewerThanTwo);
        s.says("7, the meeting does not belong to the present week: its week;", TermsTest::otherWeek);
        s.says("8, the meeting is played;", TermsTest::isPlayed);
        s.says("9, the meeting is not played: 0 or 2, as it is;", TermsTest::isNotPlayed);
        s.says("10, there is no such week: its number;", TermsTest::noSuchWeek);
        s.says("11, a meeting of the present week is not played: the lowest such one;", TermsTest::lowestNotPlayed);
        s.says("12, meetings are played: how many;", TermsTest::howManyPlayed);
        s.says("13, a rule is told twice: the rule;", TermsTest::ruleTwice);
        s.says("14, the present week is the last one: its number.", TermsTest::lastWeek);
        s.says("If nothing else is told, the detail is 0.", TermsTest::detailZero);
        s.says("The reason is kept with the index of the command of a text, from 0, or 0 for another call.",
            TermsTest::indexOfTheCommand);
    }

    private static void firstThatApplies() {
        LeagueTables full = Ways.teams(0, 0, 0, 0, 0, 0, 0, 0);
        checks.refused("team, 1 ahead of 2", full, "1 0 0", () -> full.team(10));
        full.draw();
        checks.refused("team, 1 ahead of 4", full, "1 0 0", () -> full.team(-1));
        checks.refused("team, 4 ahead of 2", full, "4 0 0", () -> full.team(0));
        checks.refused("ground, 3 ahead of 1", full, "3 8 0", () -> full.ground(8, 10));
        LeagueTables x = Ways.teams(0, 1, 2, 3);
        checks.refused("rules, 1 ahead of 13", x, "1 0 0", () -> x.rules(2, 2, 5));
        checks.refused("result, 5 ahead of 3 and 1", x, "5 0 0", () -> x.result(12, 21, 21));
        checks.refused("back, 5 ahead of 3", x, "5 0 0", () -> x.back(-1));
        checks.refused("putOff, 5 ahead of 3 and 1", x, "5 0 0", () -> x.putOff(12, 0));
        x.draw();
        checks.refused("result, 3 ahead of 1", x, "3 12 0", () -> x.result(12, 21, 21));
        checks.refused("result, 1 ahead of 7", x, "1 0 0", () -> x.result(2, 0, 21));
        checks.refused("back, 9 ahead of 7", x, "9 0 0", () -> x.back(11));
        checks.refused("putOff, 3 ahead of 1", x, "3 -1 0", () -> x.putOff(-1, 10));
        checks.refused("putOff, 1 ahead of 7 and 10", x, "1 0 0", () -> x.putOff(11, 10));
        checks.refused("putOff, 7 ahead of 10", x, "7 5 0", () -> x.putOff(11, 9));
        Ways.playTo(x, 1, 1, 1);
        checks.refused("give, 1 ahead of 12", x, "1 0 0", () -> x.give(0, 1));
        checks.refused("result, 1 ahead of 8", x, "1 0 0", () -> x.result(0, -1, 0));
        checks.refused("result, 8 ahead of 7", x, "8 0 0", () -> x.result(0, 1, 1));
        checks.refused("putOff, 1 ahead of 8", x, "1 0 0", () -> x.putOff(0, 0));
        checks.refused("putOff, 8 ahead of 7 and 10", x, "8 0 0", () -> x.putOff(0, 9));
        Ways.playTo(x, 5, 1, 1);
        checks.refused("next, 11 ahead of 14", x, "11 10 0", x::next);
        Ways.playWeek(x, 0, 0);
        checks.refused("putOff, 8 ahead of 10", x, "8 0 0", () -> x.putOff(11, 1));
    }

    private static void outOfRange() {
        LeagueTables x = Ways.drawnOf(2);
        checks.refused("team", x, "1 0 0", () -> x.team(10));
        checks.refused("ground", x, "1 0 0", () -> x.ground(1, -1));
        checks.refused("give, a win", x, "1 0 0", () -> x.give(6, 0));
        checks.refused("give, a draw", x, "1 0 0", () -> x.give(1, 4));
        checks.refused("rules", x, "1 0 0", () -> x.rules(0, 5, 1));
        checks.refused("result", x, "1 0 0", () -> x.result(0, 0, 21));
        checks.refused("putOff", x, "1 0 0", () -> x.putOff(0, 10));
        checks.refused("a text", x, "1 0 0", () -> Ways.carryOut(x, "m0=21:0"));
    }

    private static void moreThanThereCanBe() {
        LeagueTables x = Ways.teams(0, 1, 2, 3, 4, 5, 6);
        checks.due("an eighth team", 7, () -> x.team(7));
        checks.refused("a ninth team", x, "2 8 0", () -> x.team(8));
        checks.refused("and again", x, "2 8 0", () -> x.team(9));
    }

    private static void notThere() {
        for (int wrong : new int[] {-1, 2, Integer.MIN_VALUE, Integer.MAX_VALUE}) {
            LeagueTables x = Ways.drawnOf(2);
            String reason = "3 " + wrong + " 0";
            checks.refused("the team " + wrong, x, reason, () -> x.ground(wrong, 0));
            checks.refused("result, the meeting " + wrong, x, reason, () -> x.result(wrong, 0, 0));
            checks.refused("back, the meeting " + wrong, x, reason, () -> x.back(wrong));
            checks.refused("putOff, the meeting " + wrong, x, reason, () -> x.putOff(wrong, 1));
        }
        LeagueTables none = new LeagueTables();
        checks.refused("no team yet", none, "3 0 0", () -> none.ground(0, 0));
        LeagueTables eight = Ways.drawnOf(8);
        checks.refused("the meeting 56 of eight", eight, "3 56 0", () -> eight.back(56));
        checks.refused("the meeting 55 is there", eight, "9 0 0", () -> eight.back(55));
        checks.refused("a text", eight, "3 56 0", () -> Ways.carryOut(eight, "b56"));
    }

    private static void isDrawn() {
        LeagueTables x = Ways.drawnOf(2);
        checks.refused("team", x, "4 0 0", () -> x.team(0));
        checks.refused("draw", x, "4 0 0", x::draw);
        x.undo();
        checks.due("no more", 2, () -> x.team(0));
    }

    private static void isNotDrawn() {
        LeagueTables x = Ways.teams(0, 1);
        checks.refused("result", x, "5 0 0", () -> x.result(0, 0, 0));
        checks.refused("back", x, "5 0 0", () -> x.back(0));
        checks.refused("putOff", x, "5 0 0", () -> x.putOff(0, 1));
        checks.refused("next", x, "5 0 0", x::next);
        x.draw();
        x.undo();
        checks.refused("next when the drawing is undone", x, "5 0 0", x::next);
    }

    private static void fewerThanTwo() {
        LeagueTables x = new LeagueTables();
        checks.refused("none", x, "6 0 0", x::draw);
        x.team(0);
        checks.refused("one", x, "6 1 0", x::draw);
        x.team(0);
        checks.due("two are enough", 2, x::draw);
    }

    private static void otherWeek() {
        LeagueTables x = Ways.drawnOf(4);
        checks.refused("result, the week behind", x, "7 1 0", () -> x.result(2, 0, 0));
        checks.refused("result, the last week", x, "7 5 0", () -> x.result(11, 0, 0));
        checks.refused("putOff, the week behind", x, "7 1 0", () -> x.putOff(3, 1));
        x.putOff(0, 3);
        checks.refused("result, the week to which it belongs", x, "7 3 0", () -> x.result(0, 0, 0));
        checks.refused("putOff, the week to which it belongs", x, "7 3 0", () -> x.putOff(0, 1));
        x.result(1, 0, 0);
        x.next();
        checks.refused("back, the week before", x, "7 0 0", () -> x.back(1));
        Ways.playTo(x, 4, 1, 1);
        checks.refused("back of one put off", x, "7 3 0", () -> x.back(0));
    }

    private static void isPlayed() {
        LeagueTables x = Ways.drawnOf(4);
        x.result(1, 2, 0);
        checks.refused("result", x, "8 0 0", () -> x.result(1, 2, 0));
        checks.refused("putOff", x, "8 0 0", () -> x.putOff(1, 1));
        x.back(1);
        checks.due("no more", 1, () -> x.result(1, 0, 2));
    }

    private static void isNotPlayed() {
        LeagueTables x = Ways.drawnOf(4);
        checks.refused("open", x, "9 0 0", () -> x.back(0));
        x.putOff(0, 1);
        checks.refused("put off", x, "9 2 0", () -> x.back(0));
        Ways.playTo(x, 1, 1, 1);
        checks.refused("put off, in its week", x, "9 2 0", () -> x.back(0));
        x.result(0, 1, 1);
        x.back(0);
        checks.refused("put off again", x, "9 2 0", () -> x.back(0));
        x.result(2, 1, 1);
        x.back(2);
        checks.refused("open again", x, "9 0 0", () -> x.back(2));
    }

    private static void noSuchWeek() {
        LeagueTables x = Ways.drawnOf(4);
        checks.refused("the first behind the last", x, "10 6 0", () -> x.putOff(0, 6));
        checks.refused("by as many weeks as can be", x, "10 9 0", () -> x.putOff(0, 9));
        checks.due("to the last", 0, () -> x.putOff(1, 5));
        Ways.playTo(x, 5, 1, 1);
        checks.refused("from the last", x, "10 6 0", () -> x.putOff(1, 1));
        checks.refused("from the last by as many as can be", x, "10 14 0", () -> x.putOff(1, 9));
        LeagueTables y = Ways.drawnOf(8);
        y.putOff(0, 9);
        checks.due("eight have the week 9", 9, () -> y.meetingOf(0, 0));
    }

    private static void lowestNotPlayed() {
        LeagueTables x = Ways.drawnOf(4);
        checks.refused("both", x, "11 0 0", x::next);
        x.result(0, 0, 0);
        checks.refused("the second", x, "11 1 0", x::next);
        x.result(1, 0, 0);
        x.back(0);
        checks.refused("the first", x, "11 0 0", x::next);
        x.putOff(0, 1);
        x.next();
        checks.refused("one put off to it has the lowest number", x, "11 0 0", x::next);
        x.result(0, 0, 0);
        checks.refused("then one of its own", x, "11 2 0", x::next);
    }

    private static void howManyPlayed() {
        LeagueTables x = Ways.drawnOf(4);
        checks.due("none", 31, () -> x.give(2, 0));
        x.result(1, 0, 0);
        checks.refused("one", x, "12 1 0", () -> x.give(3, 1));
        x.result(0, 0, 0);
        checks.refused("two", x, "12 2 0", () -> x.give(3, 1));
        x.next();
        checks.refused("two of a week before", x, "12 2 0", () -> x.give(3, 1));
        x.undo();
        x.back(0);
        x.back(1);
        checks.due("none again", 20, () -> x.give(3, 1));
    }

    private static void ruleTwice() {
        LeagueTables x = new LeagueTables();
        for (int r = 0; r <= 4; r++) {
            int rule = r;
            int other = (r + 1) % 5;
            String reason = "13 " + r + " 0";
            checks.refused("first and second", x, reason, () -> x.rules(rule, rule, other));
            checks.refused("first and third", x, reason, () -> x.rules(rule, other, rule));
            checks.refused("second and third", x, reason, () -> x.rules(other, rule, rule));
            checks.refused("with none between", x, reason, () -> x.rules(rule, -1, rule));
            checks.refused("all three", x, reason, () -> x.rules(rule, rule, rule));
        }
        checks.due("none can be told twice", 1, () -> x.rules(-1, 3, -1));
        checks.due("or three times", 0, () -> x.rules(-1, -1, -1));
    }

    private static void lastWeek() {
        LeagueTables x = Ways.drawnOf(2);
        Ways.tell(x, 0, 0, 0, 0);
        checks.refused("the last week of two teams", x, "14 1 0", x::next);
        LeagueTables y = Ways.drawnOf(3);
        Ways.playTo(y, 5, 0, 0);
        Ways.playWeek(y, 0, 0);
        checks.refused("the last week of three", y, "14 5 0", y::next);
    }

    private static void detailZero() {
        LeagueTables x = Ways.drawnOf(2);
        x.result(0, 1, 1);
        checks.refused("1", x, "1 0 0", () -> x.result(1, 99, 0));
        checks.refused("4", x, "4 0 0", x::draw);
        checks.refused("8", x, "8 0 0", () -> x.putOff(0, 3));
        LeagueTables y = Ways.teams(1);
        checks.refused("5", y, "5 0 0", () -> y.back(7));
    }

    private static void indexOfTheCommand() {
        LeagueTables x = Ways.drawnOf(4);
        checks.refused("the first command", x, "3 12 0", () -> Ways.carryOut(x, "b12;t"));
        checks.refused("the second command", x, "11 0 1", () -> Ways.carryOut(x, "t;n"));
        checks.refused("another call behind it", x, "11 0 0", x::next);
        checks.refused("the thirtieth command", x, "11 0 29", () -> Ways.carryOut(x, "t;".repeat(29) + "n"));
        checks.due("a text that is carried out", 30, () -> Ways.carryOut(x, "t;".repeat(29) + "t"));
        checks.note("the reason is kept", Ways.reasonOf(x), "11 0 29");
        checks.refused("another call behind that", x, "1 0 0", () -> x.rules(5, 5, 5));
    }

    // ---- Changes and exceptions

    private static void changes(Sentences s) {
        s.says("Changes. What can be undone are the successful calls of team, ground, draw, give, rules, result, back,"
            + " putOff, next and commands.", TermsTest::whatCanBeUndone);
        s.says("What there was before each of the latest 8 is kept;", TermsTest::latestEight);
        s.says("restore forgets it.", TermsTest::restoreForgets);
        s.says("The text buffer, the fault position, the reason and the line do not belong to it, and stay.",
            TermsTest::whatStays);
        s.says("Exceptions. A call that throws an exception leaves the state unchanged, unless stated otherwise.",
            TermsTest::nothingIsChanged);
        s.says("If several conditions of a method are fulfilled, the one that is listed first determines the"
            + " exception.", TermsTest::firstListed);
    }

    private static void isOneChange(String call, LeagueTables x, Checks.Call made) {
        String before = Ways.look(x);
        int count = x.account(13);
        made.answer();
        checks.due(call + ": one more can be undone", count + 1, () -> x.account(13));
        checks.yes(call + ": something is changed", !Ways.look(x).equals(before));
        checks.due(call + ": undone", count, x::undo);
        checks.note(call + ": all as it was", Ways.look(x), before);
    }

    private static void whatCanBeUndone() {
        LeagueTables a = new LeagueTables();
        isOneChange("team", a, () -> a.team(4));
        LeagueTables b = Ways.teams(1, 2);
        isOneChange("ground", b, () -> b.ground(1, 9));
        LeagueTables c = Ways.teams(1, 2);
        isOneChange("draw", c, c::draw);
        LeagueTables d = Ways.teams(1, 2);
        isOneChange("give", d, () -> d.give(5, 3));
        // As many points and goals each, but only the team 1 made one away.
        LeagueTables e = Ways.drawn(1, 2);
        Ways.tell(e, 2, 1, 1, 0);
        e.rules(1, -1, -1);
        isOneChange("rules", e, () -> e.rules(4, -1, -1));
        LeagueTables f = Ways.drawn(1, 2);
        isOneChange("result", f, () -> f.result(0, 2, 1));
        LeagueTables g = Ways.drawn(1, 2);
        g.result(0, 2, 1);
        isOneChange("back", g, () -> g.back(0));
        LeagueTables h = Ways.drawn(1, 2);
        isOneChange("putOff", h, () -> h.putOff(0, 1));
        LeagueTables i = Ways.drawn(1, 2);
        i.result(0, 2, 1);
        isOneChange("next", i, i::next);
        LeagueTables j = Ways.drawn(1, 2);
        isOneChange("commands", j, () -> Ways.carryOut(j, "t4;m0=1:0;n;m1=20:0"));
        isOneOfNone();
    }

    // A call that changes nothing counts, too, and a call that is refused or only looks does not.
    private static void isOneOfNone() {
        LeagueTables x = Ways.drawn(1, 2);
        x.ground(0, 1);
        checks.due("the same ground", 4, () -> x.account(13));
        x.give(3, 1);
        checks.due("the same points", 5, () -> x.account(13));
        x.rules(0, 1, -1);
        checks.due("the same rules", 6, () -> x.account(13));
        Ways.carryOut(x, "m0=1:1;b0");
        checks.due("commands that leave all", 7, () -> x.account(13));
        checks.fails("refused", REFUSED, () -> x.ground(2, 0));
        checks.fails("refused commands", REFUSED, () -> Ways.carryOut(x, "m0=1:1;m0=1:1"));
        checks.fails("faulty commands", ARGUMENT, () -> Ways.carryOut(x, "m0=1:1;m0=1:"));
        x.save();
        x.line(0);
        x.append('t');
        checks.due("no change by those", 7, () -> x.account(13));
        checks.due("the latest one is undone", 6, x::undo);
        checks.due("the undoing cannot be undone", 5, x::undo);
    }

    private static void latestEight() {
        for (int changes = 0; changes <= 30; changes++) {
            LeagueTables x = new LeagueTables();
            x.team(0);
            for (int i = 1; i < changes; i++) {
                x.ground(0, i % 10);
            }
            int all = Math.max(changes, 1);
            int kept = Math.min(all, 8);
            checks.due("kept behind " + all, kept, () -> x.account(13));
            for (int i = kept - 1; i >= 0; i--) {
                int left = i;
                int ground = (all - kept + i - 1) % 10;
                checks.due("left behind " + all, left, x::undo);
                if (all - kept + i > 0) {
                    checks.due("ground behind " + all, ground, () -> x.teamOf(0, 0));
                }
            }
            checks.fails("no more behind " + all, STATE, x::undo);
            checks.due("team behind " + all, all > 8 ? 1 : 0, () -> x.account(0));
        }
        changesBehindUndo();
    }

    private static void changesBehindUndo() {
        LeagueTables x = Ways.teams(9);
        for (int i = 0; i < 12; i++) {
            x.ground(0, i % 10);
        }
        for (int round = 0; round < 6; round++) {
            for (int i = 0; i < 5; i++) {
                x.undo();
            }
            for (int i = 0; i < 7; i++) {
                x.ground(0, i);
            }
        }
        checks.due("eight again", 8, () -> x.account(13));
        for (int i = 5; i >= 0; i--) {
            x.undo();
            checks.due("one of the latest", i, () -> x.teamOf(0, 0));
        }
        checks.due("two of before", 1, x::undo);
        checks.due("the ground of before", 1, () -> x.teamOf(0, 0));
        checks.due("the first that is kept", 0, x::undo);
        checks.due("its ground", 0, () -> x.teamOf(0, 0));
        checks.fails("none is left", STATE, x::undo);
    }

    private static void restoreForgets() {
        LeagueTables x = Ways.teams(1, 2);
        x.save();
        for (int i = 0; i < 10; i++) {
            x.ground(0, i);
        }
        x.restore();
        checks.due("nothing is kept", 0, () -> x.account(13));
        checks.fails("nothing can be undone", STATE, x::undo);
        x.ground(0, 5);
        checks.due("one is kept again", 1, () -> x.account(13));
        checks.due("and can be undone", 0, x::undo);
        checks.due("to what was restored", 1, () -> x.teamOf(0, 0));
        checks.fails("not further", STATE, x::undo);
    }

    private static void whatStays() {
        LeagueTables x = Ways.drawnOf(2);
        x.save();
        x.result(0, 2, 0);
        checks.fails("a fault", ARGUMENT, () -> Ways.carryOut(x, "m0=!"));
        checks.fails("a refused call", REFUSED, () -> x.ground(7, 0));
        int length = x.line(0);
        Ways.write(x, "t4");
        x.undo();
        stay("behind undo", x, length);
        x.rules(-1, -1, -1);
        x.restore();
        stay("behind restore", x, length);
        checks.due("the text of before is carried out", 1, x::commands);
        checks.due("one rule", 1, () -> x.account(9));
    }

    private static void stay(String call, LeagueTables x, int length) {
        checks.due(call + ": text buffer", 2, () -> x.account(14));
        checks.due(call + ": fault position", 3, x::faultPosition);
        checks.note(call + ": reason", Ways.reasonOf(x), "3 7 0");
        checks.note(call + ": line", Ways.shown(x, length), "0:3 1-0-0 2:0");
        checks.fails(call + ": length of the line", INDEX, () -> x.character(length));
    }

    private static void unchanged(String call, LeagueTables x, Class<? extends RuntimeException> want, Checks.Call made) {
        String before = Ways.look(x);
        checks.fails(call, want, made);
        checks.note(call + ": all as it was", Ways.look(x), before);
    }

    private static void nothingIsChanged() {
        refusedChangeNothing();
        faultsOfLooksChangeNothing();
        LeagueTables x = Ways.drawnOf(2);
        x.line(1);
        checks.fails("no such team", INDEX, () -> x.line(2));
        checks.note("the line stays", Ways.shown(x, 13), "1:0 0-0-0 0:0");
        checks.fails("no such team", INDEX, () -> x.teamOf(2, 0));
        checks.fails("no reason is kept by that", NONE, () -> x.reason(0));
        LeagueTables full = Ways.teams(0, 1);
        Ways.write(full, "t".repeat(60));
        unchanged("append", full, STATE, () -> full.append('x'));
        checks.fails("a fault where it is otherwise stated", ARGUMENT, full::commands);
        checks.due("the buffer is empty", 0, () -> full.account(14));
    }

    private static void refusedChangeNothing() {
        LeagueTables a = Ways.drawnOf(2);
        a.result(0, 2, 1);
        unchanged("team", a, REFUSED, () -> a.team(0));
        unchanged("ground", a, REFUSED, () -> a.ground(0, 10));
        unchanged("draw", a, REFUSED, a::draw);
        LeagueTables b = Ways.drawnOf(2);
        b.result(0, 2, 1);
        unchanged("give", b, REFUSED, () -> b.give(2, 2));
        unchanged("rules", b, REFUSED, () -> b.rules(4, 3, 4));
        unchanged("result", b, REFUSED, () -> b.result(0, 3, 3));
        LeagueTables c = Ways.drawnOf(2);
        c.result(0, 2, 1);
        unchanged("back", c, REFUSED, () -> c.back(1));
        unchanged("putOff", c, REFUSED, () -> c.putOff(0, 1));
        c.back(0);
        unchanged("next", c, REFUSED, c::next);
        LeagueTables d = Ways.drawnOf(2);
        unchanged("commands", d, REFUSED, () -> Ways.carryOut(d, "t4;m0=1:1;n;m1=9:9;n"));
        checks.due("no fault of commands that are refused", -1, d::faultPosition);
    }

    private static void faultsOfLooksChangeNothing() {
        LeagueTables x = Ways.drawnOf(2);
        String before = Ways.look(x);
        checks.fails("undrawn restore", STATE, x::restore);
        checks.fails("mean", ARITHMETIC, x::meanGoals);
        checks.fails("share", ARITHMETIC, x::homeShare);
        checks.fails("place", NONE, () -> x.ranked(2));
        checks.fails("find", NONE, () -> x.find(1, 1));
        checks.fails("account", ARGUMENT, () -> x.account(15));
        checks.fails("reason", NONE, () -> x.reason(2));
        checks.fails("character", INDEX, () -> x.character(0));
        checks.note("all as it was", Ways.look(x), before);
        LeagueTables y = new LeagueTables();
        unchanged("undo", y, STATE, y::undo);
    }

    private static void firstListed() {
        LeagueTables x = Ways.teams(0, 1);
        checks.fails("teamOf", INDEX, () -> x.teamOf(2, 9));
        checks.fails("meetingOf", INDEX, () -> x.meetingOf(0, 7));
        checks.fails("find, not drawn", INDEX, () -> x.find(0, 2));
        checks.fails("find, the same one that is none", INDEX, () -> x.find(-1, -1));
        checks.fails("byeIn", INDEX, () -> x.byeIn(0));
        checks.fails("freeWeek", INDEX, () -> x.freeWeek(0));
        checks.fails("valueOf", INDEX, () -> x.valueOf(-1, 5));
        checks.fails("reason", ARGUMENT, () -> x.reason(3));
        checks.fails("commands", ARGUMENT, () -> Ways.carryOut(x, "n;m"));
        checks.fails("no reason is kept of a text with a fault", NONE, () -> x.reason(0));
    }

    // ---- Details

    private static void details(Sentences s) {
        s.says("Details. A team with a bye has no meeting in that week.", TermsTest::noMeetingWithABye);
        s.says("A meeting that was put off is put off from the week to which it belongs then.", TermsTest::fromThatWeek);
        s.says("With which meetings it clashes counts those that are played, too.", TermsTest::clashesWithPlayed);
        s.says("A rule that is none is left out, wherever it is told.", TermsTest::noneIsLeftOut);
        s.says("The points of rule 3 are of meetings with all teams that have the same points, whatever rules there"
            + " are ahead of it.", TermsTest::allWithTheSamePoints);
        s.says("Two meetings of a week clash also if the same team is at home in both.", TermsTest::sameTeamAtHome);
        s.says("A fourth digit of rules is a fault.", TermsTest::fourthDigit);
    }

    private static void noMeetingWithABye() {
        for (int n = 3; n <= 7; n += 2) {
            LeagueTables x = Ways.drawnOf(n);
            for (int m = 0; m < x.account(4); m++) {
                int bye = x.byeIn(x.meetingOf(m, 0));
                checks.yes(n + " teams, the meeting " + m, x.meetingOf(m, 1) != bye && x.meetingOf(m, 2) != bye);
            }
        }
    }

    private static void fromThatWeek() {
        LeagueTables x = Ways.drawnOf(8);
        x.putOff(0, 2);
        Ways.playTo(x, 2, 1, 1);
        x.putOff(0, 2);
        checks.due("its week", 4, () -> x.meetingOf(0, 0));
        checks.due("the week for which it was drawn", 0, () -> x.meetingOf(0, 6));
        Ways.playTo(x, 4, 1, 1);
        x.putOff(0, 9);
        checks.due("nine weeks later than that", 13, () -> x.meetingOf(0, 0));
        checks.refused("it belongs to no week between", x, "7 13 0", () -> x.putOff(0, 1));
    }

    private static void clashesWithPlayed() {
        LeagueTables x = Ways.drawn(3, 3, 3, 3);
        x.result(0, 1, 1);
        checks.due("one of two is played", 1, () -> x.clashes(0));
        x.result(1, 1, 1);
        checks.due("both are", 1, () -> x.clashes(0));
        checks.due("in all", 6, () -> x.account(12));
        LeagueTables y = Ways.drawnOf(4);
        Ways.playTo(y, 2, 1, 1);
        checks.due("0 is at home in the week 1, which is played", 2, () -> y.freeWeek(0));
    }

    private static void noneIsLeftOut() {
        int[][] told = {{-1, 4, 1}, {4, -1, 1}, {4, 1, -1}};
        for (int[] rules : told) {
            LeagueTables x = four(1, 1, 2, 2);
            checks.due("two are left", 2, () -> x.rules(rules[0], rules[1], rules[2]));
            ranks("by those two", x, 1, 3, 2, 0);
        }
        LeagueTables y = four(1, 1, 2, 2);
        checks.due("one, told last", 1, () -> y.rules(-1, -1, 4));
        ranks("by that one", y, 1, 3, 0, 2);
        checks.due("one, told in the middle", 1, () -> y.rules(-1, 1, -1));
        ranks("by this one", y, 1, 2, 0, 3);
        checks.due("none", 0, () -> y.rules(-1, -1, -1));
        ranks("by none", y, 0, 1, 2, 3);
    }

    private static void allWithTheSamePoints() {
        // 0, 1 and 3 have three points each, one against the other; by goals 0 stands alone ahead.
        LeagueTables x = four(5, 0, 1, 0, 0, 1, 1, 0, 1, 0, 1, 0);
        for (int[] rules : new int[][] {{3, -1, -1}, {0, 3, -1}, {1, 2, 3}}) {
            x.rules(rules[0], rules[1], rules[2]);
            for (int team : new int[] {0, 1, 3}) {
                checks.due("of the meetings of three", 3, () -> x.valueOf(team, 3));
            }
            checks.due("of one with other points", 0, () -> x.valueOf(2, 3));
        }
        x.rules(1, 3, -1);
        ranks("1 and 3 with as many goals: all three count, so that the number tells", x, 2, 0, 1, 3);
    }

    private static void sameTeamAtHome() {
        LeagueTables x = Ways.drawnOf(4);
        checks.due("0 at home to 3 in the week of 0 at home to 2", 1, () -> x.putOff(0, 1));
        checks.due("one pair", 1, () -> x.clashes(1));
        LeagueTables y = Ways.drawnOf(4);
        checks.due("0 at home to 3 in a week in which it is away", 0, () -> y.putOff(0, 2));
        checks.due("no pair", 0, () -> y.clashes(2));
    }

    private static void fourthDigit() {
        fault("t0123", 4);
        fault("t0000", 4);
        fault("t;t4321;t", 6);
        right("t432", 1);
    }
}
