import java.util.NoSuchElementException;

/** A maker of league tables: see README.md for its use, and the document for what it promises. */
public final class LeagueTables {
    private static final int MOST_TEAMS = 8;
    private static final int MOST_WEEKS = 14;
    private static final int MOST_MEETINGS = 56;
    private static final int MOST_GROUND = 9;
    private static final int MOST_GOALS = 20;
    private static final int MOST_PUT_OFF = 9;
    private static final int LAST_RULE = 4;
    private static final int MOST_KEPT = 8;
    private static final int MOST_SIGNS = 60;
    private static final int MOST_COMMANDS = 30;

    private static final int NONE = -1;

    private static final int OPEN = 0;
    private static final int PLAYED = 1;
    private static final int PUT_OFF = 2;

    private static final int OUT_OF_RANGE = 1;
    private static final int TOO_MANY = 2;
    private static final int NOT_THERE = 3;
    private static final int IS_DRAWN = 4;
    private static final int NOT_DRAWN = 5;
    private static final int TOO_FEW_TEAMS = 6;
    private static final int OTHER_WEEK = 7;
    private static final int IS_PLAYED = 8;
    private static final int NOT_PLAYED = 9;
    private static final int NO_WEEK = 10;
    private static final int WEEK_NOT_PLAYED = 11;
    private static final int SOME_PLAYED = 12;
    private static final int RULE_TWICE = 13;
    private static final int LAST_WEEK = 14;

    private final League now = new League();
    private final League saved = new League();
    private boolean isSaved;
    private final History history = new History();
    private final Fixtures fixtures = new Fixtures();
    private final Tally tally = new Tally();
    private final int[] order = new int[MOST_TEAMS];
    private final Text text = new Text();
    private int faultAt = NONE;
    private int keptReason;
    private int keptDetail;
    private int keptCommand;
    private int commandIndex;
    private final StringBuilder written = new StringBuilder();

    public LeagueTables() {
    }

    // ---- Changes of the league

    public int team(int ground) throws UnsupportedOperationException {
        if (isTeamRefused(ground)) {
            throw new UnsupportedOperationException("no team can be added so");
        }
        history.keep(now);
        put(now.grounds, now.teams, ground);
        now.teams++;
        return now.teams - 1;
    }

    public int ground(int team, int ground) throws UnsupportedOperationException {
        if (isGroundRefused(team, ground)) {
            throw new UnsupportedOperationException("no such ground can be given");
        }
        history.keep(now);
        int before = at(now.grounds, team);
        put(now.grounds, team, ground);
        return before;
    }

    public int draw() throws UnsupportedOperationException {
        if (isDrawRefused()) {
            throw new UnsupportedOperationException("the league cannot be drawn");
        }
        history.keep(now);
        fixtures.lay(now.teams);
        now.start(fixtures);
        return fixtures.weeks;
    }

    public int give(int win, int draw) throws UnsupportedOperationException {
        if (isGiveRefused(win, draw)) {
            throw new UnsupportedOperationException("these points cannot be given");
        }
        history.keep(now);
        int before = 10 * now.winPoints + now.drawPoints;
        now.winPoints = win;
        now.drawPoints = draw;
        return before;
    }

    public int rules(int one, int two, int three) throws UnsupportedOperationException {
        if (isRulesRefused(one, two, three)) {
            throw new UnsupportedOperationException("these rules cannot be set");
        }
        history.keep(now);
        now.setRules(one, two, three);
        return now.ruleCount;
    }

    public int result(int meeting, int home, int away) throws UnsupportedOperationException {
        if (isResultRefused(meeting, home, away)) {
            throw new UnsupportedOperationException("this result cannot be told");
        }
        history.keep(now);
        now.setGoals(meeting, home, away);
        return notPlayedNow();
    }

    public int back(int meeting) throws UnsupportedOperationException {
        if (isBackRefused(meeting)) {
            throw new UnsupportedOperationException("this result cannot be taken back");
        }
        history.keep(now);
        now.setGoals(meeting, NONE, NONE);
        return notPlayedNow();
    }

    public int putOff(int meeting, int weeks) throws UnsupportedOperationException {
        if (isPutOffRefused(meeting, weeks)) {
            throw new UnsupportedOperationException("this meeting cannot be put off so");
        }
        history.keep(now);
        int week = now.week + weeks;
        put(now.weeks, meeting, week);
        return clashesOf(meeting, week);
    }

    public int next() throws UnsupportedOperationException {
        if (isNextRefused()) {
            throw new UnsupportedOperationException("the next week cannot come");
        }
        history.keep(now);
        now.week++;
        return now.week;
    }

    // ---- Teams, meetings and weeks

    public int teamOf(int team, int what) throws IndexOutOfBoundsException, IllegalArgumentException {
        if (!isTeam(team)) {
            throw new IndexOutOfBoundsException("no such team");
        }
        if (what < 0 || what > 8) {
            throw new IllegalArgumentException("no such number of a team");
        }
        count();
        switch (what) {
            case 0: return at(now.grounds, team);
            case 1: return at(tally.points, team);
            case 2: return at(tally.wins, team);
            case 3: return at(tally.draws, team);
            case 4: return at(tally.losses, team);
            case 5: return at(tally.made, team);
            case 6: return at(tally.against, team);
            case 7: return at(tally.madeAway, team);
            default: return at(tally.left, team);
        }
    }

    public int pointsAgain(int team) throws IndexOutOfBoundsException {
        if (!isTeam(team)) {
            throw new IndexOutOfBoundsException("no such team");
        }
        count();
        return at(tally.wins, team) * now.winPoints + at(tally.draws, team) * now.drawPoints;
    }

    public int meetingOf(int meeting, int what) throws IndexOutOfBoundsException, IllegalArgumentException {
        if (!isMeeting(meeting)) {
            throw new IndexOutOfBoundsException("no such meeting");
        }
        if (what < 0 || what > 6) {
            throw new IllegalArgumentException("no such number of a meeting");
        }
        switch (what) {
            case 0: return at(now.weeks, meeting);
            case 1: return at(fixtures.homes, meeting);
            case 2: return at(fixtures.aways, meeting);
            case 3: return kindOf(meeting);
            case 4: return at(now.homeGoals, meeting);
            case 5: return at(now.awayGoals, meeting);
            default: return at(fixtures.drawnWeeks, meeting);
        }
    }

    public int find(int home, int away) throws IndexOutOfBoundsException, NoSuchElementException {
        if (!isTeam(home) || !isTeam(away)) {
            throw new IndexOutOfBoundsException("no such team");
        }
        int meeting = meetingBetween(home, away);
        if (meeting == NONE) {
            throw new NoSuchElementException("no meeting of these teams");
        }
        return meeting;
    }

    public int byeIn(int week) throws IndexOutOfBoundsException, NoSuchElementException {
        if (!isWeek(week)) {
            throw new IndexOutOfBoundsException("no such week");
        }
        int team = at(fixtures.byes, week);
        if (team == NONE) {
            throw new NoSuchElementException("no bye in this week");
        }
        return team;
    }

    public int meetingsIn(int week) throws IndexOutOfBoundsException {
        if (!isWeek(week)) {
            throw new IndexOutOfBoundsException("no such week");
        }
        int found = 0;
        for (int m = 0; m < meetingCount(); m++) {
            if (at(now.weeks, m) == week) {
                found++;
            }
        }
        return found;
    }

    public int clashes(int week) throws IndexOutOfBoundsException {
        if (!isWeek(week)) {
            throw new IndexOutOfBoundsException("no such week");
        }
        return clashingPairs(week);
    }

    public int freeWeek(int meeting) throws IndexOutOfBoundsException, NoSuchElementException {
        if (!isMeeting(meeting)) {
            throw new IndexOutOfBoundsException("no such meeting");
        }
        int week = firstFreeWeek(meeting);
        if (week == NONE) {
            throw new NoSuchElementException("no week without a clash");
        }
        return week;
    }

    // ---- The table

    public int ranked(int place) throws NoSuchElementException {
        if (place < 0 || place >= now.teams) {
            throw new NoSuchElementException("no such place");
        }
        count();
        sortTeams();
        return at(order, place);
    }

    public int placeOf(int team) throws IndexOutOfBoundsException {
        if (!isTeam(team)) {
            throw new IndexOutOfBoundsException("no such team");
        }
        count();
        int ahead = 0;
        for (int other = 0; other < now.teams; other++) {
            if (isAhead(other, team)) {
                ahead++;
            }
        }
        return ahead;
    }

    public int valueOf(int team, int rule) throws IndexOutOfBoundsException, IllegalArgumentException {
        if (!isTeam(team)) {
            throw new IndexOutOfBoundsException("no such team");
        }
        if (rule < 0 || rule > LAST_RULE) {
            throw new IllegalArgumentException("no such rule");
        }
        count();
        return tally.worth(team, rule);
    }

    public int tied(int team) throws IndexOutOfBoundsException {
        if (!isTeam(team)) {
            throw new IndexOutOfBoundsException("no such team");
        }
        count();
        int set = 0;
        for (int other = 0; other < now.teams; other++) {
            if (at(tally.points, other) == at(tally.points, team)) {
                set |= 1 << other;
            }
        }
        return set;
    }

    public int most(int team) throws IndexOutOfBoundsException {
        if (!isTeam(team)) {
            throw new IndexOutOfBoundsException("no such team");
        }
        count();
        return at(tally.points, team) + now.winPoints * at(tally.left, team);
    }

    public boolean isSafe(int team) throws IndexOutOfBoundsException {
        if (!isTeam(team)) {
            throw new IndexOutOfBoundsException("no such team");
        }
        count();
        return isBeyondOthers(team);
    }

    public boolean isOut(int team) throws IndexOutOfBoundsException {
        if (!isTeam(team)) {
            throw new IndexOutOfBoundsException("no such team");
        }
        count();
        return isBehindAnother(team);
    }

    public int run(int team) throws IndexOutOfBoundsException {
        if (!isTeam(team)) {
            throw new IndexOutOfBoundsException("no such team");
        }
        int longest = 0;
        int length = 0;
        for (int m = 0; m < meetingCount(); m++) {
            if (now.isPlayed(m) && isIn(team, m)) {
                length = hasLost(team, m) ? 0 : length + 1;
                longest = Math.max(longest, length);
            }
        }
        return longest;
    }

    // ---- Texts and reasons

    public int append(char character) throws IllegalStateException {
        if (text.isFull()) {
            throw new IllegalStateException("the text buffer is full");
        }
        text.take(character);
        return text.length;
    }

    public int commands() throws IllegalArgumentException, UnsupportedOperationException {
        boolean isWhole = text.isParsed();
        text.length = 0;
        faultAt = isWhole ? NONE : text.position;
        if (!isWhole) {
            throw new IllegalArgumentException("the text has a fault");
        }
        history.hold(now);
        if (!areCarriedOut()) {
            history.giveHeld(now);
            throw new UnsupportedOperationException("a command is refused");
        }
        history.keepHeld();
        return text.count;
    }

    public int faultPosition() {
        return faultAt;
    }

    public int reason(int what) throws IllegalArgumentException, NoSuchElementException {
        if (what < 0 || what > 2) {
            throw new IllegalArgumentException("no such number of a reason");
        }
        if (keptReason == 0) {
            throw new NoSuchElementException("nothing was refused");
        }
        switch (what) {
            case 0: return keptReason;
            case 1: return keptDetail;
            default: return keptCommand;
        }
    }

    // ---- The line and the accounts

    public int line(int team) throws IndexOutOfBoundsException {
        if (!isTeam(team)) {
            throw new IndexOutOfBoundsException("no such team");
        }
        count();
        written.setLength(0);
        written.append(team).append(':').append(at(tally.points, team));
        written.append(' ').append(at(tally.wins, team));
        written.append('-').append(at(tally.draws, team));
        written.append('-').append(at(tally.losses, team));
        written.append(' ').append(at(tally.made, team));
        written.append(':').append(at(tally.against, team));
        if (isBeyondOthers(team)) {
            written.append('*');
        } else if (isBehindAnother(team)) {
            written.append('x');
        }
        return written.length();
    }

    public char character(int index) throws IndexOutOfBoundsException {
        if (index < 0 || index >= written.length()) {
            throw new IndexOutOfBoundsException("no such character");
        }
        return written.charAt(index);
    }

    public float meanGoals() throws ArithmeticException {
        count();
        if (tally.played == 0) {
            throw new ArithmeticException("no meeting is played");
        }
        return (float) tally.goals / (float) tally.played;
    }

    public double homeShare() throws ArithmeticException {
        count();
        if (tally.played == 0) {
            throw new ArithmeticException("no meeting is played");
        }
        return (double) tally.homeWins / (double) tally.played;
    }

    public int account(int what) throws IllegalArgumentException {
        if (what < 0 || what > 14) {
            throw new IllegalArgumentException("no such account");
        }
        count();
        switch (what) {
            case 0: return now.teams;
            case 1: return now.isDrawn ? 1 : 0;
            case 2: return weekCount();
            case 3: return now.week;
            case 4: return meetingCount();
            case 5: return tally.played;
            case 6: return putOffCount();
            case 7: return now.winPoints;
            case 8: return now.drawPoints;
            case 9: return now.ruleCount;
            case 10: return tally.goals;
            case 11: return allPoints();
            case 12: return allClashes();
            case 13: return history.kept;
            default: return text.length;
        }
    }

    // ---- Undo and snapshot

    public int undo() throws IllegalStateException {
        if (history.kept == 0) {
            throw new IllegalStateException("nothing can be undone");
        }
        history.giveLatest(now);
        return history.kept;
    }

    public int save() {
        saved.copyFrom(now);
        isSaved = true;
        return now.teams;
    }

    public int restore() throws IllegalStateException {
        if (!isSaved) {
            throw new IllegalStateException("there is no snapshot");
        }
        now.copyFrom(saved);
        history.forget();
        // The fixtures follow from the number of teams alone; undo never goes back to those of another number.
        if (now.isDrawn) {
            fixtures.lay(now.teams);
        }
        return now.teams;
    }

    // ---- What is refused: each keeps the first reason that applies

    private boolean isTeamRefused(int ground) {
        if (!isGround(ground)) {
            return refuse(OUT_OF_RANGE, 0);
        }
        if (now.isDrawn) {
            return refuse(IS_DRAWN, 0);
        }
        return now.teams >= MOST_TEAMS && refuse(TOO_MANY, MOST_TEAMS);
    }

    private boolean isGroundRefused(int team, int ground) {
        if (!isTeam(team)) {
            return refuse(NOT_THERE, team);
        }
        return !isGround(ground) && refuse(OUT_OF_RANGE, 0);
    }

    private boolean isDrawRefused() {
        if (now.isDrawn) {
            return refuse(IS_DRAWN, 0);
        }
        return now.teams < 2 && refuse(TOO_FEW_TEAMS, now.teams);
    }

    private boolean isGiveRefused(int win, int draw) {
        if (win < 1 || win > 5 || draw < 0 || draw > 3) {
            return refuse(OUT_OF_RANGE, 0);
        }
        count();
        return tally.played > 0 && refuse(SOME_PLAYED, tally.played);
    }

    private boolean isRulesRefused(int one, int two, int three) {
        if (!isRuleOrNone(one) || !isRuleOrNone(two) || !isRuleOrNone(three)) {
            return refuse(OUT_OF_RANGE, 0);
        }
        if (one != NONE && (one == two || one == three)) {
            return refuse(RULE_TWICE, one);
        }
        return two != NONE && two == three && refuse(RULE_TWICE, two);
    }

    private boolean isResultRefused(int meeting, int home, int away) {
        if (isNoMeetingRefused(meeting)) {
            return true;
        }
        if (!areGoals(home) || !areGoals(away)) {
            return refuse(OUT_OF_RANGE, 0);
        }
        if (now.isPlayed(meeting)) {
            return refuse(IS_PLAYED, 0);
        }
        return isOtherWeekRefused(meeting);
    }

    private boolean isBackRefused(int meeting) {
        if (isNoMeetingRefused(meeting)) {
            return true;
        }
        if (!now.isPlayed(meeting)) {
            return refuse(NOT_PLAYED, kindOf(meeting));
        }
        return isOtherWeekRefused(meeting);
    }

    private boolean isPutOffRefused(int meeting, int weeks) {
        if (isNoMeetingRefused(meeting)) {
            return true;
        }
        if (weeks < 1 || weeks > MOST_PUT_OFF) {
            return refuse(OUT_OF_RANGE, 0);
        }
        if (now.isPlayed(meeting)) {
            return refuse(IS_PLAYED, 0);
        }
        if (isOtherWeekRefused(meeting)) {
            return true;
        }
        int week = now.week + weeks;
        return !isWeek(week) && refuse(NO_WEEK, week);
    }

    private boolean isNextRefused() {
        if (!now.isDrawn) {
            return refuse(NOT_DRAWN, 0);
        }
        int meeting = firstNotPlayedNow();
        if (meeting != NONE) {
            return refuse(WEEK_NOT_PLAYED, meeting);
        }
        return !isWeek(now.week + 1) && refuse(LAST_WEEK, now.week);
    }

    private boolean isNoMeetingRefused(int meeting) {
        if (!now.isDrawn) {
            return refuse(NOT_DRAWN, 0);
        }
        return !isMeeting(meeting) && refuse(NOT_THERE, meeting);
    }

    private boolean isOtherWeekRefused(int meeting) {
        int week = at(now.weeks, meeting);
        return week != now.week && refuse(OTHER_WEEK, week);
    }

    private boolean refuse(int reason, int detail) {
        keptReason = reason;
        keptDetail = detail;
        keptCommand = commandIndex;
        return true;
    }

    // ---- Commands

    private boolean areCarriedOut() {
        boolean isDone = true;
        for (int i = 0; i < text.count && isDone; i++) {
            commandIndex = i;
            isDone = isCarriedOut(i);
        }
        commandIndex = 0;
        return isDone;
    }

    private boolean isCarriedOut(int index) {
        int one = at(text.ones, index);
        int two = at(text.twos, index);
        int three = at(text.threes, index);
        switch (at(text.letters, index)) {
            case 'm':
                if (isResultRefused(one, two, three)) {
                    return false;
                }
                now.setGoals(one, two, three);
                return true;
            case 'b':
                if (isBackRefused(one)) {
                    return false;
                }
                now.setGoals(one, NONE, NONE);
                return true;
            case 'o':
                if (isPutOffRefused(one, two)) {
                    return false;
                }
                put(now.weeks, one, now.week + two);
                return true;
            case 'n':
                if (isNextRefused()) {
                    return false;
                }
                now.week++;
                return true;
            default:
                if (isRulesRefused(one, two, three)) {
                    return false;
                }
                now.setRules(one, two, three);
                return true;
        }
    }

    // ---- What there is

    private boolean isTeam(int team) {
        return team >= 0 && team < now.teams;
    }

    private boolean isMeeting(int meeting) {
        return meeting >= 0 && meeting < meetingCount();
    }

    private boolean isWeek(int week) {
        return week >= 0 && week < weekCount();
    }

    private static boolean isGround(int ground) {
        return ground >= 0 && ground <= MOST_GROUND;
    }

    private static boolean areGoals(int goals) {
        return goals >= 0 && goals <= MOST_GOALS;
    }

    private static boolean isRuleOrNone(int rule) {
        return rule >= NONE && rule <= LAST_RULE;
    }

    private int meetingCount() {
        return now.isDrawn ? fixtures.count : 0;
    }

    private int weekCount() {
        return now.isDrawn ? fixtures.weeks : 0;
    }

    // ---- Meetings

    private int kindOf(int meeting) {
        if (now.isPlayed(meeting)) {
            return PLAYED;
        }
        // A meeting is only ever put off to a later week, never back to that for which it was drawn.
        return at(now.weeks, meeting) == at(fixtures.drawnWeeks, meeting) ? OPEN : PUT_OFF;
    }

    private boolean isIn(int team, int meeting) {
        return at(fixtures.homes, meeting) == team || at(fixtures.aways, meeting) == team;
    }

    private boolean hasLost(int team, int meeting) {
        int lead = at(now.homeGoals, meeting) - at(now.awayGoals, meeting);
        return at(fixtures.homes, meeting) == team ? lead < 0 : lead > 0;
    }

    private int meetingBetween(int home, int away) {
        for (int m = 0; m < meetingCount(); m++) {
            if (at(fixtures.homes, m) == home && at(fixtures.aways, m) == away) {
                return m;
            }
        }
        return NONE;
    }

    private int firstNotPlayedNow() {
        for (int m = 0; m < meetingCount(); m++) {
            if (at(now.weeks, m) == now.week && !now.isPlayed(m)) {
                return m;
            }
        }
        return NONE;
    }

    private int notPlayedNow() {
        int found = 0;
        for (int m = 0; m < meetingCount(); m++) {
            if (at(now.weeks, m) == now.week && !now.isPlayed(m)) {
                found++;
            }
        }
        return found;
    }

    private int putOffCount() {
        int found = 0;
        for (int m = 0; m < meetingCount(); m++) {
            if (kindOf(m) == PUT_OFF) {
                found++;
            }
        }
        return found;
    }

    // ---- Clashes

    // The same team at home in both meetings is the same ground, too: this is the only test of a clash.
    private int groundOf(int meeting) {
        return at(now.grounds, at(fixtures.homes, meeting));
    }

    private int clashesOf(int meeting, int week) {
        int found = 0;
        for (int m = 0; m < meetingCount(); m++) {
            if (m != meeting && at(now.weeks, m) == week && groundOf(m) == groundOf(meeting)) {
                found++;
            }
        }
        return found;
    }

    private int clashingPairs(int week) {
        int twice = 0;
        for (int m = 0; m < meetingCount(); m++) {
            if (at(now.weeks, m) == week) {
                twice += clashesOf(m, week);
            }
        }
        return twice / 2;
    }

    private int allClashes() {
        int found = 0;
        for (int week = 0; week < weekCount(); week++) {
            found += clashingPairs(week);
        }
        return found;
    }

    private int firstFreeWeek(int meeting) {
        for (int week = at(now.weeks, meeting) + 1; week < weekCount(); week++) {
            if (clashesOf(meeting, week) == 0) {
                return week;
            }
        }
        return NONE;
    }

    // ---- Standings: each of these reads the tally, which count takes first

    private void count() {
        tally.take(now, fixtures, meetingCount());
    }

    private boolean isAhead(int one, int other) {
        int lead = at(tally.points, one) - at(tally.points, other);
        for (int i = 0; i < now.ruleCount && lead == 0; i++) {
            int rule = at(now.rules, i);
            lead = tally.worth(one, rule) - tally.worth(other, rule);
        }
        return lead != 0 ? lead > 0 : one < other;
    }

    private void sortTeams() {
        for (int team = 0; team < now.teams; team++) {
            int place = team;
            while (place > 0 && isAhead(team, at(order, place - 1))) {
                put(order, place, at(order, place - 1));
                place--;
            }
            put(order, place, team);
        }
    }

    // A draw can give more than a win, and then it is by draws that a team can have the most.
    private int reachOf(int team) {
        return at(tally.points, team) + Math.max(now.winPoints, now.drawPoints) * at(tally.left, team);
    }

    private boolean isBeyondOthers(int team) {
        for (int other = 0; other < now.teams; other++) {
            if (other != team && reachOf(other) >= at(tally.points, team)) {
                return false;
            }
        }
        return true;
    }

    private boolean isBehindAnother(int team) {
        for (int other = 0; other < now.teams; other++) {
            if (other != team && at(tally.points, other) > reachOf(team)) {
                return true;
            }
        }
        return false;
    }

    private int allPoints() {
        int sum = 0;
        for (int team = 0; team < now.teams; team++) {
            sum += at(tally.points, team);
        }
        return sum;
    }

    // ---- Rows: every index is looked at here before it is used

    private static int at(int[] row, int index) {
        return index >= 0 && index < row.length ? row[index] : 0;
    }

    private static void put(int[] row, int index, int value) {
        if (index >= 0 && index < row.length) {
            row[index] = value;
        }
    }

    private static void raise(int[] row, int index, int by) {
        if (index >= 0 && index < row.length) {
            row[index] += by;
        }
    }

    private static void copyRow(int[] from, int[] to) {
        System.arraycopy(from, 0, to, 0, Math.min(from.length, to.length));
    }

    private static void fillRow(int[] row, int value) {
        for (int i = 0; i < row.length; i++) {
            row[i] = value;
        }
    }

    /** All that can be undone and saved. */
    private static final class League {
        int teams;
        final int[] grounds = new int[MOST_TEAMS];
        boolean isDrawn;
        int week;
        int winPoints = 3;
        int drawPoints = 1;
        int ruleCount = 2;
        final int[] rules = {0, 1, NONE};
        final int[] weeks = new int[MOST_MEETINGS];
        final int[] homeGoals = new int[MOST_MEETINGS];
        final int[] awayGoals = new int[MOST_MEETINGS];

        void copyFrom(League other) {
            teams = other.teams;
            copyRow(other.grounds, grounds);
            isDrawn = other.isDrawn;
            week = other.week;
            winPoints = other.winPoints;
            drawPoints = other.drawPoints;
            ruleCount = other.ruleCount;
            copyRow(other.rules, rules);
            copyRow(other.weeks, weeks);
            copyRow(other.homeGoals, homeGoals);
            copyRow(other.awayGoals, awayGoals);
        }

        void start(Fixtures fixtures) {
            isDrawn = true;
            week = 0;
            copyRow(fixtures.drawnWeeks, weeks);
            fillRow(homeGoals, NONE);
            fillRow(awayGoals, NONE);
        }

        void setRules(int one, int two, int three) {
            ruleCount = 0;
            addRule(one);
            addRule(two);
            addRule(three);
        }

        private void addRule(int rule) {
            if (rule != NONE) {
                put(rules, ruleCount, rule);
                ruleCount++;
            }
        }

        void setGoals(int meeting, int home, int away) {
            put(homeGoals, meeting, home);
            put(awayGoals, meeting, away);
        }

        boolean isPlayed(int meeting) {
            return at(homeGoals, meeting) != NONE;
        }
    }

    /** The meetings as they are drawn for a number of teams. */
    private static final class Fixtures {
        int weeks;
        int count;
        final int[] homes = new int[MOST_MEETINGS];
        final int[] aways = new int[MOST_MEETINGS];
        final int[] drawnWeeks = new int[MOST_MEETINGS];
        final int[] byes = new int[MOST_WEEKS];
        private final int[] guests = new int[MOST_TEAMS];

        void lay(int teams) {
            int last = teams % 2 == 0 ? teams - 1 : teams;
            weeks = 2 * last;
            count = 0;
            for (int week = 0; week < weeks; week++) {
                boolean isSecondHalf = week >= last;
                int round = isSecondHalf ? week - last : week;
                fillRow(guests, NONE);
                pairPlaces(round, last, isSecondHalf);
                put(byes, week, last == teams ? round : NONE);
                addWeek(week, teams);
            }
        }

        private void pairPlaces(int round, int last, boolean isTurned) {
            if (last < 1) {
                return;
            }
            host(round, last, (round % 2 == 0) != isTurned);
            for (int k = 1; k <= last / 2; k++) {
                int x = (round + k) % last;
                int y = (round + last - k) % last;
                host(x, y, (k % 2 == 0) != isTurned);
            }
        }

        private void host(int one, int other, boolean isOneAtHome) {
            put(guests, isOneAtHome ? one : other, isOneAtHome ? other : one);
        }

        private void addWeek(int week, int teams) {
            for (int home = 0; home < teams; home++) {
                int away = at(guests, home);
                if (away != NONE && away < teams) {
                    put(homes, count, home);
                    put(aways, count, away);
                    put(drawnWeeks, count, week);
                    count++;
                }
            }
        }
    }

    /** What the teams have of the meetings that are played. */
    private static final class Tally {
        int played;
        int goals;
        int homeWins;
        final int[] points = new int[MOST_TEAMS];
        final int[] wins = new int[MOST_TEAMS];
        final int[] draws = new int[MOST_TEAMS];
        final int[] losses = new int[MOST_TEAMS];
        final int[] made = new int[MOST_TEAMS];
        final int[] against = new int[MOST_TEAMS];
        final int[] madeAway = new int[MOST_TEAMS];
        final int[] left = new int[MOST_TEAMS];
        final int[] amongTied = new int[MOST_TEAMS];

        void take(League league, Fixtures fixtures, int meetings) {
            clear();
            for (int m = 0; m < meetings; m++) {
                int home = at(fixtures.homes, m);
                int away = at(fixtures.aways, m);
                if (league.isPlayed(m)) {
                    addPlayed(home, away, at(league.homeGoals, m), at(league.awayGoals, m));
                    addPoints(points, home, away, league, m);
                } else {
                    raise(left, home, 1);
                    raise(left, away, 1);
                }
            }
            // Who is tied is known only when all points are.
            for (int m = 0; m < meetings; m++) {
                int home = at(fixtures.homes, m);
                int away = at(fixtures.aways, m);
                if (league.isPlayed(m) && at(points, home) == at(points, away)) {
                    addPoints(amongTied, home, away, league, m);
                }
            }
        }

        private void clear() {
            played = 0;
            goals = 0;
            homeWins = 0;
            fillRow(points, 0);
            fillRow(wins, 0);
            fillRow(draws, 0);
            fillRow(losses, 0);
            fillRow(made, 0);
            fillRow(against, 0);
            fillRow(madeAway, 0);
            fillRow(left, 0);
            fillRow(amongTied, 0);
        }

        private void addPlayed(int home, int away, int homeGoals, int awayGoals) {
            played++;
            goals += homeGoals + awayGoals;
            homeWins += homeGoals > awayGoals ? 1 : 0;
            addGoals(home, homeGoals, awayGoals);
            addGoals(away, awayGoals, homeGoals);
            raise(madeAway, away, awayGoals);
        }

        private void addGoals(int team, int own, int others) {
            raise(made, team, own);
            raise(against, team, others);
            raise(wins, team, own > others ? 1 : 0);
            raise(draws, team, own == others ? 1 : 0);
            raise(losses, team, own < others ? 1 : 0);
        }

        private static void addPoints(int[] row, int home, int away, League league, int meeting) {
            int lead = at(league.homeGoals, meeting) - at(league.awayGoals, meeting);
            if (lead == 0) {
                raise(row, home, league.drawPoints);
                raise(row, away, league.drawPoints);
            } else {
                raise(row, lead > 0 ? home : away, league.winPoints);
            }
        }

        int worth(int team, int rule) {
            switch (rule) {
                case 0: return at(made, team) - at(against, team);
                case 1: return at(made, team);
                case 2: return at(wins, team);
                case 3: return at(amongTied, team);
                default: return at(madeAway, team);
            }
        }
    }

    /** What there was before the latest changes, in a ring with a slot more than it keeps. */
    private static final class History {
        private static final int SLOTS = MOST_KEPT + 1;
        private final League[] ring = new League[SLOTS];
        private int head;
        int kept;

        History() {
            for (int i = 0; i < ring.length; i++) {
                ring[i] = new League();
            }
        }

        void keep(League league) {
            hold(league);
            keepHeld();
        }

        // The slot more lets commands be tried without loss of the oldest that is kept.
        void hold(League league) {
            League slot = slotAt(head);
            if (slot != null) {
                slot.copyFrom(league);
            }
        }

        void keepHeld() {
            head = (head + 1) % SLOTS;
            kept = Math.min(kept + 1, MOST_KEPT);
        }

        void giveHeld(League league) {
            League slot = slotAt(head);
            if (slot != null) {
                league.copyFrom(slot);
            }
        }

        void giveLatest(League league) {
            head = (head + SLOTS - 1) % SLOTS;
            kept = Math.max(kept - 1, 0);
            giveHeld(league);
        }

        void forget() {
            kept = 0;
        }

        private League slotAt(int index) {
            return index >= 0 && index < ring.length ? ring[index] : null;
        }
    }

    /** The text buffer, and the commands that were parsed of it. */
    private static final class Text {
        private static final int END = -1;
        int length;
        int position;
        int count;
        private final char[] signs = new char[MOST_SIGNS];
        final int[] letters = new int[MOST_COMMANDS];
        final int[] ones = new int[MOST_COMMANDS];
        final int[] twos = new int[MOST_COMMANDS];
        final int[] threes = new int[MOST_COMMANDS];

        boolean isFull() {
            return length >= signs.length;
        }

        void take(char sign) {
            if (length >= 0 && length < signs.length) {
                signs[length] = sign;
                length++;
            }
        }

        // Where this answers false, position is the fault position.
        boolean isParsed() {
            position = 0;
            count = 0;
            for (int i = 0; i < MOST_COMMANDS; i++) {
                if (!isCommandParsed()) {
                    return false;
                }
                if (sign() == END) {
                    return true;
                }
                if (!isPassed(';')) {
                    return false;
                }
            }
            return false;
        }

        private boolean isCommandParsed() {
            int letter = sign();
            switch (letter) {
                case 'm': return isResultParsed();
                case 'b': return isBackParsed();
                case 'o': return isPutOffParsed();
                case 'n': return isPassed('n') && add('n', NONE, NONE, NONE);
                case 't': return isPassed('t') && areRulesParsed();
                default: return false;
            }
        }

        private boolean isResultParsed() {
            position++;
            int meeting = number();
            if (meeting == NONE || !isPassed('=')) {
                return false;
            }
            int home = number();
            if (home == NONE || !isPassed(':')) {
                return false;
            }
            int away = number();
            return away != NONE && add('m', meeting, home, away);
        }

        private boolean isBackParsed() {
            position++;
            int meeting = number();
            return meeting != NONE && add('b', meeting, NONE, NONE);
        }

        private boolean isPutOffParsed() {
            position++;
            int meeting = number();
            if (meeting == NONE || !isPassed('+')) {
                return false;
            }
            int weeks = number();
            return weeks != NONE && add('o', meeting, weeks, NONE);
        }

        private boolean areRulesParsed() {
            int one = digit(LAST_RULE);
            int two = digit(LAST_RULE);
            int three = digit(LAST_RULE);
            return add('t', one, two, three);
        }

        private boolean add(char letter, int one, int two, int three) {
            put(letters, count, letter);
            put(ones, count, one);
            put(twos, count, two);
            put(threes, count, three);
            count++;
            return true;
        }

        private int number() {
            int tens = digit(9);
            if (tens == NONE) {
                return NONE;
            }
            int units = digit(9);
            return units == NONE ? tens : 10 * tens + units;
        }

        private int digit(int highest) {
            int value = sign() - '0';
            if (value < 0 || value > highest) {
                return NONE;
            }
            position++;
            return value;
        }

        private boolean isPassed(char wanted) {
            if (sign() != wanted) {
                return false;
            }
            position++;
            return true;
        }

        private int sign() {
            return position >= 0 && position < length && position < signs.length ? signs[position] : END;
        }
    }
}
