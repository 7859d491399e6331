import java.util.Random;

/** Runs of 512 calls, each made on the class and on the model, whose answers must be the same. */
public final class ModelTest {
    private static final int RUNS = 1500;
    private static final int CALLS = 512;
    private static final String SIGNS = "mbont0123456789=:+;;n x";

    private final Random random;
    private final Checks checks;
    private final LeagueTables real = new LeagueTables();
    private final Model model = new Model();
    private final int run;
    private int call;
    // How many calls of 100 are wrong on purpose, and how many change something.
    private final int wrongShare;
    private final int changeShare;

    private ModelTest(int run, Checks checks) {
        this.run = run;
        this.checks = checks;
        random = new Random(run);
        wrongShare = new int[] {2, 10, 30}[run % 3];
        changeShare = new int[] {30, 60, 85}[run / 3 % 3];
    }

    public static void main(String[] args) {
        Checks checks = new Checks("model");
        for (int run = 0; run < RUNS; run++) {
            new ModelTest(run, checks).go();
        }
        checks.end();
    }

    private void go() {
        int teams = random.nextInt(10) == 0 ? random.nextInt(3) : 2 + random.nextInt(7);
        for (call = 0; call < CALLS; call++) {
            if (call < teams) {
                int ground = random.nextInt(10);
                same("team", () -> real.team(ground), () -> model.team(ground));
            } else if (random.nextInt(100) < changeShare) {
                change();
            } else {
                look();
            }
        }
    }

    private void same(String name, Checks.Call made, Checks.Call due) {
        checks.note("run " + run + ", call " + call + ", " + name, told(made), told(due));
    }

    private static String told(Checks.Call made) {
        try {
            return "" + made.answer();
        } catch (RuntimeException e) {
            return e.getClass().getName();
        }
    }

    // ---- Arguments: mostly ones that there are

    private boolean isWrong() {
        return random.nextInt(100) < wrongShare;
    }

    private int number(int count) {
        if (!isWrong() && count > 0) {
            return random.nextInt(count);
        }
        return switch (random.nextInt(6)) {
            case 0 -> -1;
            case 1 -> count;
            case 2 -> Integer.MIN_VALUE;
            case 3 -> Integer.MAX_VALUE;
            case 4 -> random.nextInt();
            default -> random.nextInt(70) - 5;
        };
    }

    private int aTeam() {
        return number(model.account(0));
    }

    private int aWeek() {
        return number(model.account(2));
    }

    private int aMeeting() {
        return number(model.account(4));
    }

    // A meeting of the present week that is played or not, if there is one.
    private int meetingNow(boolean isPlayed) {
        int count = model.account(4);
        int start = count == 0 ? 0 : random.nextInt(count);
        for (int i = 0; i < count && !isWrong(); i++) {
            int m = (start + i) % count;
            if (model.meetingOf(m, 0) == model.account(3) && (model.meetingOf(m, 3) == 1) == isPlayed) {
                return m;
            }
        }
        return aMeeting();
    }

    private int goals() {
        return isWrong() ? number(21) : random.nextInt(10) == 0 ? random.nextInt(21) : random.nextInt(4);
    }

    private int aRule() {
        return isWrong() ? number(5) : random.nextInt(6) - 1;
    }

    // ---- Changes

    private void change() {
        switch (random.nextInt(40)) {
            case 0 -> {
                int ground = number(10);
                same("team", () -> real.team(ground), () -> model.team(ground));
            }
            case 1 -> {
                int team = aTeam();
                int ground = random.nextInt(2) == 0 ? random.nextInt(3) : number(10);
                same("ground", () -> real.ground(team, ground), () -> model.ground(team, ground));
            }
            case 2, 3 -> same("draw", real::draw, model::draw);
            case 4 -> {
                int win = 1 + number(5);
                int draw = number(4);
                same("give", () -> real.give(win, draw), () -> model.give(win, draw));
            }
            case 5 -> {
                int one = aRule();
                int two = aRule();
                int three = aRule();
                same("rules", () -> real.rules(one, two, three), () -> model.rules(one, two, three));
            }
            case 6 -> {
                int meeting = meetingNow(true);
                same("back", () -> real.back(meeting), () -> model.back(meeting));
            }
            case 7, 8, 9 -> {
                int meeting = meetingNow(false);
                int weeks = random.nextInt(5) == 0 ? number(11) : 1 + random.nextInt(4);
                same("putOff", () -> real.putOff(meeting, weeks), () -> model.putOff(meeting, weeks));
            }
            case 10, 11, 12, 13, 14, 15 -> text();
            case 16, 17 -> same("undo", real::undo, model::undo);
            case 18 -> same("save", real::save, model::save);
            case 19 -> {
                if (random.nextInt(4) == 0) {
                    same("restore", real::restore, model::restore);
                }
            }
            case 20, 21, 22, 23, 24, 25, 26, 27 -> same("next", real::next, model::next);
            default -> {
                int meeting = meetingNow(false);
                int home = goals();
                int away = goals();
                same("result", () -> real.result(meeting, home, away), () -> model.result(meeting, home, away));
            }
        }
    }

    private void text() {
        StringBuilder text = new StringBuilder();
        int parts = 1 + random.nextInt(6);
        for (int i = 0; i < parts; i++) {
            text.append(i == 0 ? "" : ";").append(command());
        }
        for (int i = 0; i < text.length(); i++) {
            if (random.nextInt(300) < wrongShare) {
                char sign = SIGNS.charAt(random.nextInt(SIGNS.length()));
                switch (random.nextInt(3)) {
                    case 0 -> text.setCharAt(i, sign);
                    case 1 -> text.insert(i, sign);
                    default -> text.deleteCharAt(i);
                }
            }
        }
        if (random.nextInt(400) < wrongShare) {
            text.append(";n".repeat(30));
        }
        for (int i = 0; i < text.length(); i++) {
            char sign = text.charAt(i);
            same("append " + sign, () -> real.append(sign), () -> model.append(sign));
        }
        same("commands " + text, real::commands, model::commands);
        same("faultPosition", real::faultPosition, model::faultPosition);
    }

    private String command() {
        return switch (random.nextInt(12)) {
            case 0 -> "b" + two(meetingNow(true));
            case 1 -> "o" + two(meetingNow(false)) + "+" + two(1 + random.nextInt(3));
            case 2, 3 -> "n";
            case 4 -> "t" + digits();
            default -> "m" + two(meetingNow(false)) + "=" + two(goals()) + ":" + two(goals());
        };
    }

    private String digits() {
        StringBuilder digits = new StringBuilder();
        for (int i = random.nextInt(isWrong() ? 5 : 4); i > 0; i--) {
            digits.append(random.nextInt(isWrong() ? 6 : 5));
        }
        return digits.toString();
    }

    private String two(int number) {
        int shown = Math.floorMod(number, 100);
        return random.nextInt(3) == 0 && shown < 10 ? "0" + shown : "" + shown;
    }

    // ---- Looks

    private void look() {
        int team = aTeam();
        int meeting = aMeeting();
        int week = aWeek();
        switch (random.nextInt(24)) {
            case 0 -> look2("teamOf", team, number(9));
            case 1 -> same("pointsAgain", () -> real.pointsAgain(team), () -> model.pointsAgain(team));
            case 2 -> look2("meetingOf", meeting, number(7));
            case 3 -> look2("find", team, aTeam());
            case 4 -> same("byeIn", () -> real.byeIn(week), () -> model.byeIn(week));
            case 5 -> same("meetingsIn", () -> real.meetingsIn(week), () -> model.meetingsIn(week));
            case 6 -> same("clashes", () -> real.clashes(week), () -> model.clashes(week));
            case 7 -> same("freeWeek", () -> real.freeWeek(meeting), () -> model.freeWeek(meeting));
            case 8 -> same("ranked", () -> real.ranked(team), () -> model.ranked(team));
            case 9 -> same("placeOf", () -> real.placeOf(team), () -> model.placeOf(team));
            case 10 -> look2("valueOf", team, number(5));
            case 11 -> same("tied", () -> real.tied(team), () -> model.tied(team));
            case 12 -> same("most", () -> real.most(team), () -> model.most(team));
            case 13 -> same("isSafe", () -> real.isSafe(team) ? 1 : 0, () -> model.isSafe(team) ? 1 : 0);
            case 14 -> same("isOut", () -> real.isOut(team) ? 1 : 0, () -> model.isOut(team) ? 1 : 0);
            case 15 -> same("run", () -> real.run(team), () -> model.run(team));
            case 16 -> same("faultPosition", real::faultPosition, model::faultPosition);
            case 17, 18 -> look2("reason", number(3), 0);
            case 19 -> {
                same("line", () -> real.line(team), () -> model.line(team));
                for (int i = -1; i < 30; i++) {
                    int index = i;
                    same("character", () -> real.character(index), () -> model.character(index));
                }
            }
            case 20 -> same("meanGoals", real::meanGoals, model::meanGoals);
            case 21 -> same("homeShare", real::homeShare, model::homeShare);
            case 22 -> look2("account", number(15), 0);
            default -> everything();
        }
    }

    private void look2(String name, int one, int two) {
        String shown = name + " " + one + " " + two;
        switch (name) {
            case "teamOf" -> same(shown, () -> real.teamOf(one, two), () -> model.teamOf(one, two));
            case "meetingOf" -> same(shown, () -> real.meetingOf(one, two), () -> model.meetingOf(one, two));
            case "find" -> same(shown, () -> real.find(one, two), () -> model.find(one, two));
            case "valueOf" -> same(shown, () -> real.valueOf(one, two), () -> model.valueOf(one, two));
            case "reason" -> same(shown, () -> real.reason(one), () -> model.reason(one));
            default -> same(shown, () -> real.account(one), () -> model.account(one));
        }
    }

    private void everything() {
        for (int what = 0; what < 15; what++) {
            look2("account", what, 0);
        }
        for (int what = 0; what < 3; what++) {
            look2("reason", what, 0);
        }
        for (int t = 0; t < model.account(0); t++) {
            int team = t;
            same("ranked", () -> real.ranked(team), () -> model.ranked(team));
            same("placeOf", () -> real.placeOf(team), () -> model.placeOf(team));
            for (int what = 0; what < 9; what++) {
                look2("teamOf", t, what);
            }
            for (int rule = 0; rule < 5; rule++) {
                look2("valueOf", t, rule);
            }
        }
        for (int m = 0; m < model.account(4); m++) {
            for (int what = 0; what < 7; what++) {
                look2("meetingOf", m, what);
            }
        }
    }
}
