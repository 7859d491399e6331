import java.util.ArrayDeque;
import java.util.ArrayList;
import java.util.Comparator;
import java.util.Deque;
import java.util.List;
import java.util.NoSuchElementException;
import java.util.regex.Matcher;
import java.util.regex.Pattern;

/** The document once more, with the Java library and without regard to speed, to compare with. */
public final class Model {
    private static final String COMMAND =
        "(?:m\\d{1,2}=\\d{1,2}:\\d{1,2}|b\\d{1,2}|o\\d{1,2}\\+\\d{1,2}|n|t[0-4]{0,3})";
    private static final Pattern TEXT = Pattern.compile(COMMAND + "(?:;" + COMMAND + ")*");

    private static final class Match {
        int home;
        int away;
        int drawnWeek;
        int week;
        boolean isPlayed;
        boolean wasPutOff;
        int homeGoals = -1;
        int awayGoals = -1;

        Match copy() {
            Match m = new Match();
            m.home = home;
            m.away = away;
            m.drawnWeek = drawnWeek;
            m.week = week;
            m.isPlayed = isPlayed;
            m.wasPutOff = wasPutOff;
            m.homeGoals = homeGoals;
            m.awayGoals = awayGoals;
            return m;
        }

        int goalsOf(int team) {
            return team == home ? homeGoals : awayGoals;
        }

        int goalsAgainst(int team) {
            return team == home ? awayGoals : homeGoals;
        }

        boolean has(int team) {
            return home == team || away == team;
        }

        int kind() {
            return isPlayed ? 1 : wasPutOff ? 2 : 0;
        }
    }

    private static final class State {
        List<Integer> grounds = new ArrayList<>();
        List<Integer> rules = new ArrayList<>(List.of(0, 1));
        List<Match> matches = new ArrayList<>();
        List<Integer> byes = new ArrayList<>();
        boolean isDrawn;
        int weeks;
        int week;
        int win = 3;
        int draw = 1;

        State copy() {
            State s = new State();
            s.grounds = new ArrayList<>(grounds);
            s.rules = new ArrayList<>(rules);
            s.byes = new ArrayList<>(byes);
            for (Match m : matches) {
                s.matches.add(m.copy());
            }
            s.isDrawn = isDrawn;
            s.weeks = weeks;
            s.week = week;
            s.win = win;
            s.draw = draw;
            return s;
        }
    }

    private State s = new State();
    private State snapshot;
    private final Deque<State> past = new ArrayDeque<>();
    private final StringBuilder buffer = new StringBuilder();
    private int[] kept;
    private int fault = -1;
    private String line = "";
    private int commandIndex;

    private UnsupportedOperationException refusal(int reason, int detail) {
        kept = new int[] {reason, detail, commandIndex};
        return new UnsupportedOperationException();
    }

    private void remember(State before) {
        past.addLast(before);
        if (past.size() > 8) {
            past.removeFirst();
        }
    }

    private static boolean in(int value, int low, int high) {
        return low <= value && value <= high;
    }

    private void needTeam(int team) {
        if (!in(team, 0, s.grounds.size() - 1)) {
            throw new IndexOutOfBoundsException();
        }
    }

    private void needWeek(int week) {
        if (!in(week, 0, s.weeks - 1)) {
            throw new IndexOutOfBoundsException();
        }
    }

    private void needMeeting(int meeting) {
        if (!in(meeting, 0, s.matches.size() - 1)) {
            throw new IndexOutOfBoundsException();
        }
    }

    private void needWhat(int what, int last) {
        if (!in(what, 0, last)) {
            throw new IllegalArgumentException();
        }
    }

    public int team(int ground) {
        if (!in(ground, 0, 9)) {
            throw refusal(1, 0);
        }
        if (s.isDrawn) {
            throw refusal(4, 0);
        }
        if (s.grounds.size() == 8) {
            throw refusal(2, 8);
        }
        remember(s.copy());
        s.grounds.add(ground);
        return s.grounds.size() - 1;
    }

    public int ground(int team, int ground) {
        if (!in(team, 0, s.grounds.size() - 1)) {
            throw refusal(3, team);
        }
        if (!in(ground, 0, 9)) {
            throw refusal(1, 0);
        }
        remember(s.copy());
        return s.grounds.set(team, ground);
    }

    public int draw() {
        if (s.isDrawn) {
            throw refusal(4, 0);
        }
        if (s.grounds.size() < 2) {
            throw refusal(6, s.grounds.size());
        }
        remember(s.copy());
        int teams = s.grounds.size();
        int n = teams + teams % 2;
        s.isDrawn = true;
        s.week = 0;
        s.weeks = 2 * (n - 1);
        for (int half = 0; half < 2; half++) {
            for (int w = 0; w <= n - 2; w++) {
                addWeek(half, w, n, teams);
            }
        }
        return s.weeks;
    }

    private void addWeek(int half, int w, int n, int teams) {
        List<int[]> pairs = new ArrayList<>();
        pairs.add(w % 2 == 1 ? new int[] {n - 1, w} : new int[] {w, n - 1});
        for (int k = 1; k <= n / 2 - 1; k++) {
            int x = (w + k) % (n - 1);
            int y = (w + n - 1 - k) % (n - 1);
            pairs.add(k % 2 == 1 ? new int[] {y, x} : new int[] {x, y});
        }
        List<Match> week = new ArrayList<>();
        int bye = -1;
        for (int[] pair : pairs) {
            Match m = new Match();
            m.home = pair[half];
            m.away = pair[1 - half];
            m.drawnWeek = w + half * (n - 1);
            m.week = m.drawnWeek;
            if (m.home >= teams) {
                bye = m.away;
            } else if (m.away >= teams) {
                bye = m.home;
            } else {
                week.add(m);
            }
        }
        week.sort(Comparator.comparingInt(m -> m.home));
        s.matches.addAll(week);
        s.byes.add(bye);
    }

    public int give(int win, int draw) {
        if (!in(win, 1, 5) || !in(draw, 0, 3)) {
            throw refusal(1, 0);
        }
        int played = (int) s.matches.stream().filter(m -> m.isPlayed).count();
        if (played > 0) {
            throw refusal(12, played);
        }
        remember(s.copy());
        int before = 10 * s.win + s.draw;
        s.win = win;
        s.draw = draw;
        return before;
    }

    private void checkRules(List<Integer> told) {
        for (int rule : told) {
            if (!in(rule, -1, 4)) {
                throw refusal(1, 0);
            }
        }
        for (int rule = 0; rule < 5; rule++) {
            int wanted = rule;
            if (told.stream().filter(r -> r == wanted).count() > 1) {
                throw refusal(13, rule);
            }
        }
    }

    private void doRules(List<Integer> told) {
        checkRules(told);
        s.rules = new ArrayList<>(told);
        s.rules.removeIf(r -> r == -1);
    }

    public int rules(int one, int two, int three) {
        State before = s.copy();
        doRules(List.of(one, two, three));
        remember(before);
        return s.rules.size();
    }

    private Match needed(int meeting) {
        if (!s.isDrawn) {
            throw refusal(5, 0);
        }
        if (!in(meeting, 0, s.matches.size() - 1)) {
            throw refusal(3, meeting);
        }
        return s.matches.get(meeting);
    }

    private void doResult(int meeting, int home, int away) {
        Match m = needed(meeting);
        if (!in(home, 0, 20) || !in(away, 0, 20)) {
            throw refusal(1, 0);
        }
        if (m.isPlayed) {
            throw refusal(8, 0);
        }
        if (m.week != s.week) {
            throw refusal(7, m.week);
        }
        m.isPlayed = true;
        m.homeGoals = home;
        m.awayGoals = away;
    }

    private int openNow() {
        return (int) s.matches.stream().filter(m -> m.week == s.week && !m.isPlayed).count();
    }

    public int result(int meeting, int home, int away) {
        State before = s.copy();
        doResult(meeting, home, away);
        remember(before);
        return openNow();
    }

    private void doBack(int meeting) {
        Match m = needed(meeting);
        if (!m.isPlayed) {
            throw refusal(9, m.kind());
        }
        if (m.week != s.week) {
            throw refusal(7, m.week);
        }
        m.isPlayed = false;
        m.homeGoals = -1;
        m.awayGoals = -1;
    }

    public int back(int meeting) {
        State before = s.copy();
        doBack(meeting);
        remember(before);
        return openNow();
    }

    private boolean clash(Match a, Match b) {
        return a != b && a.week == b.week
            && (a.home == b.home || s.grounds.get(a.home).equals(s.grounds.get(b.home)));
    }

    private int doPutOff(int meeting, int weeks) {
        Match m = needed(meeting);
        if (!in(weeks, 1, 9)) {
            throw refusal(1, 0);
        }
        if (m.isPlayed) {
            throw refusal(8, 0);
        }
        if (m.week != s.week) {
            throw refusal(7, m.week);
        }
        if (m.week + weeks >= s.weeks) {
            throw refusal(10, m.week + weeks);
        }
        m.week += weeks;
        m.wasPutOff = true;
        return (int) s.matches.stream().filter(o -> clash(o, m)).count();
    }

    public int putOff(int meeting, int weeks) {
        State before = s.copy();
        int clashes = doPutOff(meeting, weeks);
        remember(before);
        return clashes;
    }

    private void doNext() {
        if (!s.isDrawn) {
            throw refusal(5, 0);
        }
        for (int m = 0; m < s.matches.size(); m++) {
            if (s.matches.get(m).week == s.week && !s.matches.get(m).isPlayed) {
                throw refusal(11, m);
            }
        }
        if (s.week == s.weeks - 1) {
            throw refusal(14, s.week);
        }
        s.week++;
    }

    public int next() {
        State before = s.copy();
        doNext();
        remember(before);
        return s.week;
    }

    private int[] numbersOf(int team) {
        int[] of = new int[9];
        of[0] = s.grounds.get(team);
        for (Match m : s.matches) {
            if (!m.has(team)) {
                continue;
            }
            if (!m.isPlayed) {
                of[8]++;
                continue;
            }
            of[1] += pointsIn(m, team);
            int sign = Integer.signum(m.goalsOf(team) - m.goalsAgainst(team));
            of[sign == 1 ? 2 : sign == 0 ? 3 : 4]++;
            of[5] += m.goalsOf(team);
            of[6] += m.goalsAgainst(team);
            of[7] += m.away == team ? m.awayGoals : 0;
        }
        return of;
    }

    private int pointsIn(Match m, int team) {
        int sign = Integer.signum(m.goalsOf(team) - m.goalsAgainst(team));
        return sign == 1 ? s.win : sign == 0 ? s.draw : 0;
    }

    private int points(int team) {
        return numbersOf(team)[1];
    }

    public int teamOf(int team, int what) {
        needTeam(team);
        needWhat(what, 8);
        return numbersOf(team)[what];
    }

    public int pointsAgain(int team) {
        needTeam(team);
        return numbersOf(team)[2] * s.win + numbersOf(team)[3] * s.draw;
    }

    public int meetingOf(int meeting, int what) {
        needMeeting(meeting);
        needWhat(what, 6);
        Match m = s.matches.get(meeting);
        return new int[] {m.week, m.home, m.away, m.kind(), m.homeGoals, m.awayGoals, m.drawnWeek}[what];
    }

    public int find(int home, int away) {
        needTeam(home);
        needTeam(away);
        for (int m = 0; m < s.matches.size(); m++) {
            if (s.matches.get(m).home == home && s.matches.get(m).away == away) {
                return m;
            }
        }
        throw new NoSuchElementException();
    }

    public int byeIn(int week) {
        needWeek(week);
        if (s.byes.get(week) == -1) {
            throw new NoSuchElementException();
        }
        return s.byes.get(week);
    }

    public int meetingsIn(int week) {
        needWeek(week);
        return (int) s.matches.stream().filter(m -> m.week == week).count();
    }

    private int clashesOfWeek(int week) {
        int pairs = 0;
        for (int a = 0; a < s.matches.size(); a++) {
            for (int b = a + 1; b < s.matches.size(); b++) {
                if (s.matches.get(a).week == week && clash(s.matches.get(a), s.matches.get(b))) {
                    pairs++;
                }
            }
        }
        return pairs;
    }

    public int clashes(int week) {
        needWeek(week);
        return clashesOfWeek(week);
    }

    public int freeWeek(int meeting) {
        needMeeting(meeting);
        for (int w = s.matches.get(meeting).week + 1; w < s.weeks; w++) {
            Match moved = s.matches.get(meeting).copy();
            moved.week = w;
            Match own = s.matches.get(meeting);
            if (s.matches.stream().noneMatch(m -> m != own && clash(m, moved))) {
                return w;
            }
        }
        throw new NoSuchElementException();
    }

    private int worth(int team, int rule) {
        int[] of = numbersOf(team);
        if (rule == 3) {
            int sum = 0;
            for (Match m : s.matches) {
                if (m.isPlayed && m.has(team) && points(m.home) == points(m.away)) {
                    sum += pointsIn(m, team);
                }
            }
            return sum;
        }
        return rule == 0 ? of[5] - of[6] : rule == 1 ? of[5] : rule == 2 ? of[2] : of[7];
    }

    private List<Integer> table() {
        List<Integer> teams = new ArrayList<>();
        for (int t = 0; t < s.grounds.size(); t++) {
            teams.add(t);
        }
        // A stable sort from the last rule to the points leaves the lower numbers first.
        for (int i = s.rules.size() - 1; i >= 0; i--) {
            int rule = s.rules.get(i);
            teams.sort(Comparator.comparingInt(t -> -worth(t, rule)));
        }
        teams.sort(Comparator.comparingInt(t -> -points(t)));
        return teams;
    }

    public int ranked(int place) {
        if (!in(place, 0, s.grounds.size() - 1)) {
            throw new NoSuchElementException();
        }
        return table().get(place);
    }

    public int placeOf(int team) {
        needTeam(team);
        return table().indexOf(team);
    }

    public int valueOf(int team, int rule) {
        needTeam(team);
        needWhat(rule, 4);
        return worth(team, rule);
    }

    public int tied(int team) {
        needTeam(team);
        int set = 0;
        for (int t = 0; t < s.grounds.size(); t++) {
            set += points(t) == points(team) ? 1 << t : 0;
        }
        return set;
    }

    public int most(int team) {
        needTeam(team);
        return points(team) + numbersOf(team)[8] * s.win;
    }

    private int canHave(int team) {
        return points(team) + numbersOf(team)[8] * Math.max(s.win, s.draw);
    }

    public boolean isSafe(int team) {
        needTeam(team);
        for (int t = 0; t < s.grounds.size(); t++) {
            if (t != team && canHave(t) >= points(team)) {
                return false;
            }
        }
        return true;
    }

    public boolean isOut(int team) {
        needTeam(team);
        for (int t = 0; t < s.grounds.size(); t++) {
            if (t != team && points(t) > canHave(team)) {
                return true;
            }
        }
        return false;
    }

    public int run(int team) {
        needTeam(team);
        StringBuilder signs = new StringBuilder();
        for (Match m : s.matches) {
            if (m.isPlayed && m.has(team)) {
                signs.append(m.goalsOf(team) < m.goalsAgainst(team) ? ' ' : '+');
            }
        }
        int longest = 0;
        for (String part : signs.toString().split(" ")) {
            longest = Math.max(longest, part.length());
        }
        return longest;
    }

    public int append(char character) {
        if (buffer.length() == 60) {
            throw new IllegalStateException();
        }
        return buffer.append(character).length();
    }

    private static int faultOf(String text) {
        if (TEXT.matcher(text).matches()) {
            return -1;
        }
        for (int i = 0; i < text.length(); i++) {
            Matcher prefix = TEXT.matcher(text.substring(0, i + 1));
            if (!prefix.matches() && !prefix.hitEnd()) {
                return i;
            }
        }
        return text.length();
    }

    public int commands() {
        String text = buffer.toString();
        buffer.setLength(0);
        fault = faultOf(text);
        if (fault != -1) {
            throw new IllegalArgumentException();
        }
        State before = s.copy();
        String[] parts = text.split(";");
        try {
            for (int i = 0; i < parts.length; i++) {
                commandIndex = i;
                carryOut(parts[i]);
            }
        } catch (UnsupportedOperationException e) {
            s = before;
            throw e;
        } finally {
            commandIndex = 0;
        }
        remember(before);
        return parts.length;
    }

    private void carryOut(String part) {
        String[] numbers = part.substring(1).split("[=:+]");
        switch (part.charAt(0)) {
            case 'm' -> doResult(number(numbers, 0), number(numbers, 1), number(numbers, 2));
            case 'b' -> doBack(number(numbers, 0));
            case 'o' -> doPutOff(number(numbers, 0), number(numbers, 1));
            case 'n' -> doNext();
            default -> {
                List<Integer> told = new ArrayList<>();
                for (char digit : part.substring(1).toCharArray()) {
                    told.add(digit - '0');
                }
                doRules(told);
            }
        }
    }

    private static int number(String[] numbers, int index) {
        return Integer.parseInt(numbers[index]);
    }

    public int faultPosition() {
        return fault;
    }

    public int reason(int what) {
        needWhat(what, 2);
        if (kept == null) {
            throw new NoSuchElementException();
        }
        return kept[what];
    }

    public int line(int team) {
        needTeam(team);
        int[] of = numbersOf(team);
        line = String.format("%d:%d %d-%d-%d %d:%d%s", team, of[1], of[2], of[3], of[4], of[5], of[6],
            isSafe(team) ? "*" : isOut(team) ? "x" : "");
        return line.length();
    }

    public char character(int index) {
        if (!in(index, 0, line.length() - 1)) {
            throw new IndexOutOfBoundsException();
        }
        return line.charAt(index);
    }

    private int goals() {
        return s.matches.stream().filter(m -> m.isPlayed).mapToInt(m -> m.homeGoals + m.awayGoals).sum();
    }

    private int played() {
        return (int) s.matches.stream().filter(m -> m.isPlayed).count();
    }

    public float meanGoals() {
        if (played() == 0) {
            throw new ArithmeticException();
        }
        return (float) goals() / (float) played();
    }

    public double homeShare() {
        if (played() == 0) {
            throw new ArithmeticException();
        }
        long won = s.matches.stream().filter(m -> m.isPlayed && m.homeGoals > m.awayGoals).count();
        return (double) won / (double) played();
    }

    public int account(int what) {
        needWhat(what, 14);
        int points = 0;
        for (int t = 0; t < s.grounds.size(); t++) {
            points += points(t);
        }
        int clashes = 0;
        for (int w = 0; w < s.weeks; w++) {
            clashes += clashesOfWeek(w);
        }
        int putOff = (int) s.matches.stream().filter(m -> m.kind() == 2).count();
        return new int[] {s.grounds.size(), s.isDrawn ? 1 : 0, s.weeks, s.week, s.matches.size(), played(), putOff,
            s.win, s.draw, s.rules.size(), goals(), points, clashes, past.size(), buffer.length()}[what];
    }

    public int undo() {
        if (past.isEmpty()) {
            throw new IllegalStateException();
        }
        s = past.removeLast();
        return past.size();
    }

    public int save() {
        snapshot = s.copy();
        return s.grounds.size();
    }

    public int restore() {
        if (snapshot == null) {
            throw new IllegalStateException();
        }
        s = snapshot.copy();
        past.clear();
        return s.grounds.size();
    }
}
