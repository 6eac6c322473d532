import java.util.ArrayDeque;
import java.util.Deque;

/**
 * THE LAW: its FAULTS are found by a machine with a stack of what is still awaited; what it says is
 * reckoned straight from the text, each time anew.
 */
final class ModelLaw {
    private final String text;
    private int at;
    private Model.State road;
    private int dot;
    private int minute;
    private int party;
    private int rain;

    private static final class Refused extends RuntimeException {
    }

    ModelLaw(String text) {
        this.text = text;
    }

    int clauses() {
        return text.isEmpty() ? 0 : text.split(";").length;
    }

    private enum Goal {
        MORE_CLAUSES, CLAUSE, OPEN, CLOSE, SQUARE, NOT_ENDS, E, MORE_E, TERM, MORE_TERM, FACTOR, C, MORE_C,
        PART, MORE_PART, PIECE, COMPARE
    }

    private static void await(Deque<Goal> goals, Goal... inOrder) {
        for (int k = inOrder.length - 1; k >= 0; k--) {
            goals.push(inOrder[k]);
        }
    }

    static int faultOrClauses(String text) {
        Deque<Goal> goals = new ArrayDeque<>();
        await(goals, Goal.CLAUSE, Goal.MORE_CLAUSES);
        int clauses = 0;
        int open = 0;
        int at = 0;
        while (!goals.isEmpty()) {
            char c = at < text.length() ? text.charAt(at) : 0;
            boolean opens = false;
            switch (goals.pop()) {
                case MORE_CLAUSES:
                    if (at == text.length()) {
                        return clauses;
                    }
                    if (c != ';') {
                        return -1000 - at;
                    }
                    await(goals, Goal.CLAUSE, Goal.MORE_CLAUSES);
                    at++;
                    break;
                case CLAUSE:
                    if (c == 0 || "pdsol".indexOf(c) < 0) {
                        return -1000 - at;
                    }
                    if (++clauses == 17) {
                        return -4000 - at;
                    }
                    await(goals, Goal.E, Goal.OPEN, Goal.C, Goal.CLOSE);
                    at++;
                    break;
                case OPEN:
                    if (c != '(') {
                        return -1000 - at;
                    }
                    open++;
                    at++;
                    break;
                case CLOSE:
                    if (c != ')') {
                        return -1000 - at;
                    }
                    open--;
                    at++;
                    break;
                case SQUARE:
                    if (c != ']') {
                        return -1000 - at;
                    }
                    open--;
                    at++;
                    break;
                case NOT_ENDS:
                    open--;
                    break;
                case E:
                    await(goals, Goal.TERM, Goal.MORE_E);
                    break;
                case MORE_E:
                    if (c == '+' || c == '-') {
                        await(goals, Goal.TERM, Goal.MORE_E);
                        at++;
                    }
                    break;
                case TERM:
                    await(goals, Goal.FACTOR, Goal.MORE_TERM);
                    break;
                case MORE_TERM:
                    if (c == '*' || c == '/' || c == '%') {
                        await(goals, Goal.FACTOR, Goal.MORE_TERM);
                        at++;
                    }
                    break;
                case FACTOR:
                    if (c == '[') {
                        await(goals, Goal.E, Goal.SQUARE);
                        opens = true;
                    } else if (Character.isDigit(c) && c < 128) {
                        int digits = 0;
                        while (at < text.length() && text.charAt(at) >= '0' && text.charAt(at) <= '9') {
                            if (++digits == 6) {
                                return -2000 - at;
                            }
                            at++;
                        }
                    } else if (c != 0 && "inkhwtcar".indexOf(c) >= 0) {
                        at++;
                    } else {
                        return -1000 - at;
                    }
                    break;
                case C:
                    await(goals, Goal.PART, Goal.MORE_C);
                    break;
                case MORE_C:
                    if (c == '|') {
                        await(goals, Goal.PART, Goal.MORE_C);
                        at++;
                    }
                    break;
                case PART:
                    await(goals, Goal.PIECE, Goal.MORE_PART);
                    break;
                case MORE_PART:
                    if (c == '&') {
                        await(goals, Goal.PIECE, Goal.MORE_PART);
                        at++;
                    }
                    break;
                case PIECE:
                    if (c == '!') {
                        await(goals, Goal.PIECE, Goal.NOT_ENDS);
                        opens = true;
                    } else if (c == '(') {
                        await(goals, Goal.C, Goal.CLOSE);
                        opens = true;
                    } else {
                        await(goals, Goal.E, Goal.COMPARE, Goal.E);
                    }
                    break;
                case COMPARE:
                    if (c != '<' && c != '>' && c != '=') {
                        return -1000 - at;
                    }
                    at++;
                    break;
                default:
                    throw new IllegalStateException();
            }
            if (opens) {
                if (++open == 7) {
                    return -5000 - at;
                }
                at++;
            }
        }
        throw new IllegalStateException(text);
    }

    int ask(char letter, Model.State where, int i, int t, int a, int r) {
        road = where;
        dot = i;
        minute = t;
        party = a;
        rain = r;
        int low = letter == 'p' ? 1 : 0;
        int high = letter == 'p' ? 9 : letter == 's' ? 63 : 99;
        for (String clause : text.split(";")) {
            if (clause.isEmpty() || clause.charAt(0) != letter) {
                continue;
            }
            int split = clause.indexOf('(');
            if (holds(clause, split)) {
                return Math.max(low, Math.min(high, worth(clause)));
            }
        }
        return low;
    }

    private boolean holds(String clause, int from) {
        at = from + 1;
        try {
            return c(clause, true);
        } catch (Refused refused) {
            return false;
        }
    }

    private int worth(String clause) {
        at = 1;
        try {
            return e(clause, true);
        } catch (Refused refused) {
            return 0;
        }
    }

    private boolean c(String s, boolean matters) {
        boolean answer = part(s, matters);
        while (s.charAt(at) == '|') {
            at++;
            boolean next = part(s, matters && !answer);
            answer = answer || next;
        }
        return answer;
    }

    private boolean part(String s, boolean matters) {
        boolean answer = piece(s, matters);
        while (s.charAt(at) == '&') {
            at++;
            boolean next = piece(s, matters && answer);
            answer = answer && next;
        }
        return answer;
    }

    private boolean piece(String s, boolean matters) {
        if (s.charAt(at) == '!') {
            at++;
            return !piece(s, matters);
        }
        if (s.charAt(at) == '(') {
            at++;
            boolean answer = c(s, matters);
            at++;
            return answer;
        }
        int left = e(s, matters);
        char sign = s.charAt(at++);
        int right = e(s, matters);
        return sign == '<' ? left < right : sign == '>' ? left > right : left == right;
    }

    private int e(String s, boolean matters) {
        long answer = term(s, matters);
        while (s.charAt(at) == '+' || s.charAt(at) == '-') {
            char sign = s.charAt(at++);
            long next = term(s, matters);
            answer = (int) (sign == '+' ? answer + next : answer - next);
        }
        return (int) answer;
    }

    private int term(String s, boolean matters) {
        long answer = factor(s, matters);
        while ("*/%".indexOf(s.charAt(at)) >= 0) {
            char sign = s.charAt(at++);
            long next = factor(s, matters);
            if (sign == '*') {
                answer = (int) (answer * next);
            } else if (next != 0) {
                answer = (int) (sign == '/' ? answer / next : answer % next);
            } else if (matters) {
                throw new Refused();
            }
        }
        return (int) answer;
    }

    private int factor(String s, boolean matters) {
        char c = s.charAt(at++);
        int[] kerb = road.rows[0];
        switch (c) {
            case '[':
                int answer = e(s, matters);
                at++;
                return answer;
            case 'i':
                return dot;
            case 'n':
                return road.n;
            case 'k':
                return kerb[dot];
            case 'h':
                return road.rows[1][dot];
            case 'w':
                return road.rows[2][dot];
            case 't':
                return minute;
            case 'c':
                return dot == 0 ? 0 : Math.abs(kerb[dot] - kerb[dot - 1]);
            case 'a':
                return party;
            case 'r':
                return rain;
            default:
                int number = c - '0';
                while (Character.isDigit(s.charAt(at))) {
                    number = 10 * number + s.charAt(at++) - '0';
                }
                return number;
        }
    }
}
