import java.util.ArrayList;
import java.util.List;
import java.util.Map;

/** The law's text for Model: a scanner for faults, and a value by splitting at the weakest sign. */
final class LawText {
    private LawText() {
    }

    /** Goes from byte to byte with what may follow; -1: no fault. */
    static int fault(String text) {
        boolean wantsOperand = true;
        boolean asked = false;
        int digits = 0;
        int signs = 0;
        // for each open ( how many signs were ahead of it, and whether a comparison stood there
        List<Integer> signsAhead = new ArrayList<>();
        List<Boolean> comparedAhead = new ArrayList<>();
        boolean compared = false;
        int open = 0;
        for (int i = 0; i < text.length(); i++) {
            char c = text.charAt(i);
            boolean digit = c >= '0' && c <= '9';
            if (wantsOperand) {
                if (c == '!' || c == '-' || c == '(') {
                    open++;
                    if (open > 6) {
                        return i;
                    }
                    if (c == '(') {
                        signsAhead.add(signs);
                        comparedAhead.add(compared);
                        signs = 0;
                        compared = false;
                    } else {
                        signs++;
                    }
                } else if (digit || "dymbct".indexOf(c) >= 0) {
                    digits = digit ? 1 : 0;
                    open -= signs;
                    signs = 0;
                    wantsOperand = false;
                } else {
                    return i;
                }
                continue;
            }
            if (digit && digits > 0 && digits < 4) {
                digits++;
                continue;
            }
            digits = 0;
            boolean inner = !signsAhead.isEmpty();
            if (c == ')' && inner) {
                int last = signsAhead.size() - 1;
                open -= 1 + signsAhead.remove(last);
                compared = comparedAhead.remove(last);
                continue;
            }
            if ("+-*/%".indexOf(c) >= 0) {
                wantsOperand = true;
            } else if ("<=>".indexOf(c) >= 0 && !compared) {
                compared = true;
                wantsOperand = true;
            } else if (c == '|' || c == '&') {
                compared = false;
                wantsOperand = true;
            } else if (c == '?' && !inner && !asked) {
                asked = true;
                compared = false;
                wantsOperand = true;
            } else if (c == ';' && !inner) {
                asked = false;
                compared = false;
                wantsOperand = true;
            } else {
                return i;
            }
        }
        return wantsOperand || !signsAhead.isEmpty() ? text.length() : -1;
    }

    static int value(String law, Map<Character, Integer> names) {
        for (String line : law.split(";")) {
            int ask = line.indexOf('?');
            if (ask < 0) {
                return worth(line, names);
            }
            if (worth(line.substring(0, ask), names) != 0) {
                return worth(line.substring(ask + 1), names);
            }
        }
        return 0;
    }

    private static int worth(String e, Map<Character, Integer> names) {
        String[] weakestFirst = {"|", "&", "<=>", "+-", "*/%"};
        for (String signs : weakestFirst) {
            int at = lastOutside(e, signs);
            if (at > 0) {
                int a = worth(e.substring(0, at), names);
                int b = worth(e.substring(at + 1), names);
                return join(e.charAt(at), a, b);
            }
        }
        char first = e.charAt(0);
        if (first == '!') {
            return worth(e.substring(1), names) == 0 ? 1 : 0;
        }
        if (first == '-') {
            return -worth(e.substring(1), names);
        }
        if (first == '(') {
            return worth(e.substring(1, e.length() - 1), names);
        }
        return names.containsKey(first) ? names.get(first) : Integer.parseInt(e);
    }

    /** The last of the signs that joins two, outside of all ( ). */
    private static int lastOutside(String e, String signs) {
        int deep = 0;
        for (int i = e.length() - 1; i > 0; i--) {
            char c = e.charAt(i);
            deep += c == ')' ? 1 : c == '(' ? -1 : 0;
            char ahead = e.charAt(i - 1);
            boolean joins = ahead == ')' || Character.isLetterOrDigit(ahead);
            if (deep == 0 && joins && signs.indexOf(c) >= 0) {
                return i;
            }
        }
        return -1;
    }

    private static int join(char sign, int a, int b) {
        switch (sign) {
            case '|': return a != 0 | b != 0 ? 1 : 0;
            case '&': return a != 0 & b != 0 ? 1 : 0;
            case '<': return a < b ? 1 : 0;
            case '=': return a == b ? 1 : 0;
            case '>': return a > b ? 1 : 0;
            case '+': return a + b;
            case '-': return a - b;
            case '*': return a * b;
            case '/': return b == 0 ? 0 : a / b;
            default: return b == 0 ? 0 : a % b;
        }
    }
}
