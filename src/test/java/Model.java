import java.util.ArrayDeque;
import java.util.ArrayList;
import java.util.Deque;
import java.util.HashSet;
import java.util.List;
import java.util.Set;
import java.util.TreeSet;
import java.util.regex.Matcher;
import java.util.regex.Pattern;

/**
 * The document's words as plainly as the Java library lets them be said, word by word and fault by
 * fault, to compare the program with. It shares no line of thought with the program's columns.
 */
final class Model {
    private static final Pattern FORM =
            Pattern.compile("(?:[iow]\\d{1,2}|g\\d{1,2},\\d{1,2}(?:,\\d{1,2})?);");

    private record Gate(int type, int first, int second) { }

    private record State(int inputs, List<Gate> gates, List<Integer> outputs, Set<Integer> normal,
            int code, int weight) {
        State copy() {
            return new State(inputs, new ArrayList<>(gates), new ArrayList<>(outputs),
                    new TreeSet<>(normal), code, weight);
        }

        State coded(int newCode, int newWeight) {
            return new State(inputs, gates, outputs, normal, newCode, newWeight);
        }
    }

    private record Reading(State state, int start, int reason) { }

    private final StringBuilder text = new StringBuilder();
    private final Deque<State> past = new ArrayDeque<>();
    private State now;

    Model() {
        now = new State(0, List.of(), List.of(), Set.of(), 1, 0);
        text.append("i4;g0,0,2;g0,1,3;g1,4,5;g0,0,3;g0,1,2;g1,7,8;o6;o9;w5;w6;w9;w10;");
        configure();
        text.setLength(0);
    }

    int append(int character) {
        if (character < 32 || character > 126) {
            return -101;
        }
        if (text.length() == 200) {
            return -103;
        }
        return text.append((char) character).length();
    }

    int clearText() {
        int length = text.length();
        text.setLength(0);
        return length;
    }

    int firstError() {
        return reading().start;
    }

    int errorReason() {
        return reading().reason;
    }

    int configure() {
        Reading reading = reading();
        if (text.isEmpty() || reading.reason != -104) {
            return -102;
        }
        now = reading.state.coded(now.code, now.weight);
        if (now.normal.isEmpty()) {
            for (int word = 0; word < 1 << now.inputs; word++) {
                now.normal.add(word);
            }
        }
        past.clear();
        return nodeCount();
    }

    private Reading reading() {
        String rest = text.toString();
        State state = null;
        while (!rest.isEmpty()) {
            int start = text.length() - rest.length();
            char letter = rest.charAt(0);
            if ("igow".indexOf(letter) < 0 || (letter == 'i') != (start == 0)) {
                return new Reading(null, start, 1);
            }
            Matcher matcher = FORM.matcher(rest);
            if (!matcher.lookingAt()) {
                return new Reading(null, start, 2);
            }
            String[] parts = rest.substring(1, matcher.end() - 1).split(",");
            int[] n = new int[parts.length];
            for (int k = 0; k < n.length; k++) {
                n[k] = Integer.parseInt(parts[k]);
            }
            if (letter == 'i' && n[0] >= 1 && n[0] <= 6) {
                state = new State(n[0], new ArrayList<>(), new ArrayList<>(), new TreeSet<>(), 0, 0);
            } else {
                int reason = take(state, letter, n);
                if (reason != 0) {
                    return new Reading(null, start, reason);
                }
            }
            rest = rest.substring(matcher.end());
        }
        return new Reading(state, -104, -104);
    }

    private static int take(State state, char letter, int[] n) {
        if (letter == 'i') {
            return 3;
        }
        int nodes = state.inputs + state.gates.size();
        if (letter == 'w') {
            return n[0] >= 1 << state.inputs ? 3 : state.normal.add(n[0]) ? 0 : 0;
        }
        if (letter == 'o') {
            return n[0] >= nodes ? 3 : state.outputs.size() == 6 ? 4 : state.outputs.add(n[0]) ? 0 : 0;
        }
        if (n[0] > 5 || (n[0] == 5) != (n.length == 2) || n[1] >= nodes
                || (n.length == 3 && n[2] >= nodes)) {
            return 3;
        }
        if (state.gates.size() == 24) {
            return 4;
        }
        state.gates.add(new Gate(n[0], n[1], n.length == 3 ? n[2] : -104));
        return 0;
    }

    private void edit() {
        past.push(now.copy());
        if (past.size() > 5) {
            past.removeLast();
        }
    }

    private boolean noNode(int node) {
        return node < 0 || node >= nodeCount();
    }

    int addGate(int type, int first, int second) {
        if (type < 0 || type > 5 || noNode(first) || (type != 5 && noNode(second))) {
            return -101;
        }
        if (now.gates.size() + 1 > 24) {
            return -103;
        }
        edit();
        now.gates.add(new Gate(type, first, type == 5 ? -104 : second));
        return nodeCount() - 1;
    }

    int addTwoRailCell(int a, int b, int c, int d) {
        if (noNode(a) || noNode(b) || noNode(c) || noNode(d)) {
            return -101;
        }
        if (now.gates.size() + 6 > 24) {
            return -103;
        }
        edit();
        int n = nodeCount();
        now.gates.addAll(List.of(new Gate(0, a, c), new Gate(0, b, d), new Gate(1, n, n + 1),
                new Gate(0, a, d), new Gate(0, b, c), new Gate(1, n + 3, n + 4)));
        return n + 5;
    }

    int addComparator(int a, int b) {
        if (noNode(a) || noNode(b)) {
            return -101;
        }
        if (now.gates.size() + 2 > 24) {
            return -103;
        }
        edit();
        now.gates.addAll(List.of(new Gate(1, a, b), new Gate(0, a, b)));
        return nodeCount() - 1;
    }

    int removeGate() {
        if (now.gates.isEmpty()) {
            return -104;
        }
        if (now.outputs.contains(nodeCount() - 1)) {
            return -102;
        }
        edit();
        return now.gates.remove(now.gates.size() - 1).type;
    }

    int addOutput(int node) {
        if (noNode(node)) {
            return -101;
        }
        if (now.outputs.size() == 6) {
            return -103;
        }
        edit();
        now.outputs.add(node);
        return now.outputs.size();
    }

    int clearOutputs() {
        edit();
        int size = now.outputs.size();
        now.outputs.clear();
        return size;
    }

    private boolean noWord(int word) {
        return word < 0 || word >= Math.pow(2, now.inputs);
    }

    int setNormal(int word, int normal) {
        if (noWord(word) || (normal != 0 && normal != 1)) {
            return -101;
        }
        edit();
        if (normal == 1) {
            now.normal.add(word);
        } else {
            now.normal.remove(word);
        }
        return now.normal.size();
    }

    int setCode(int code, int weight) {
        if (code < 0 || code > 3 || weight < 0 || weight > 6) {
            return -101;
        }
        edit();
        int previous = now.code;
        now = now.coded(code, weight);
        return previous;
    }

    int undo() {
        if (past.isEmpty()) {
            return -102;
        }
        now = past.pop();
        return past.size();
    }

    int nodeCount() {
        return now.inputs + now.gates.size();
    }

    int typeOf(int node) {
        if (noNode(node)) {
            return -101;
        }
        return node < now.inputs ? 6 : now.gates.get(node - now.inputs).type;
    }

    int operandOf(int node, int index) {
        if (noNode(node) || index < 0 || index > 1) {
            return -101;
        }
        if (node < now.inputs) {
            return -104;
        }
        Gate gate = now.gates.get(node - now.inputs);
        return index == 0 ? gate.first : gate.second;
    }

    int outputNode(int output) {
        return output < 0 || output >= now.outputs.size() ? -101 : now.outputs.get(output);
    }

    int isNormal(int word) {
        return noWord(word) ? -101 : now.normal.contains(word) ? 1 : 0;
    }

    private boolean noFault(int fault) {
        return fault < 0 || fault >= 2 * nodeCount();
    }

    /** The value of a node, asked back from it to the inputs; values that are known are kept. */
    private boolean value(int node, int word, int fault, Boolean[] known) {
        if (known[node] == null) {
            known[node] = fault >= 0 && fault / 2 == node
                    ? fault % 2 == 1 : soundValue(node, word, fault, known);
        }
        return known[node];
    }

    private boolean soundValue(int node, int word, int fault, Boolean[] known) {
        if (node < now.inputs) {
            return word / (int) Math.pow(2, node) % 2 == 1;
        }
        Gate gate = now.gates.get(node - now.inputs);
        boolean a = value(gate.first, word, fault, known);
        boolean b = gate.type != 5 && value(gate.second, word, fault, known);
        return switch (gate.type) {
            case 0 -> a && b;
            case 1 -> a || b;
            case 2 -> a != b;
            case 3 -> !(a && b);
            case 4 -> !(a || b);
            default -> !a;
        };
    }

    private boolean[] bits(int word, int fault) {
        boolean[] bits = new boolean[now.outputs.size()];
        Boolean[] known = new Boolean[nodeCount()];
        for (int k = 0; k < bits.length; k++) {
            bits[k] = value(now.outputs.get(k), word, fault, known);
        }
        return bits;
    }

    private static int number(boolean[] bits, int from) {
        int number = 0;
        int worth = 1;
        for (int k = from; k < bits.length; k++) {
            number += bits[k] ? worth : 0;
            worth *= 2;
        }
        return number;
    }

    int outputWord(int word, int fault) {
        return noWord(word) || (fault != -1 && noFault(fault)) ? -101 : number(bits(word, fault), 0);
    }

    int isCodeWord(int outputWord) {
        int n = now.outputs.size();
        if (outputWord < 0 || outputWord > Math.pow(2, n) - 1) {
            return -101;
        }
        boolean[] bits = new boolean[n];
        for (int k = 0; k < n; k++) {
            bits[k] = outputWord / (int) Math.pow(2, k) % 2 == 1;
        }
        return isCode(bits) ? 1 : 0;
    }

    private boolean isCode(boolean[] bits) {
        int n = bits.length;
        int ones = 0;
        int zerosBelow = 0;
        for (int k = 0; k < n; k++) {
            ones += bits[k] ? 1 : 0;
            zerosBelow += !bits[k] && k < now.weight ? 1 : 0;
        }
        if (now.code == 0) {
            return true;
        }
        if (now.code == 2) {
            return ones == now.weight;
        }
        if (now.code == 3) {
            return now.weight <= n && number(bits, now.weight) == zerosBelow;
        }
        boolean all = n % 2 == 0;
        for (int k = 0; k < n / 2; k++) {
            all = all && bits[2 * k] != bits[2 * k + 1];
        }
        return all;
    }

    int errorKind(int word, int fault) {
        if (noWord(word) || noFault(fault)) {
            return -101;
        }
        boolean[] right = bits(word, -1);
        boolean[] wrong = bits(word, fault);
        boolean rises = false;
        boolean falls = false;
        for (int k = 0; k < right.length; k++) {
            rises = rises || (!right[k] && wrong[k]);
            falls = falls || (right[k] && !wrong[k]);
        }
        return rises ? falls ? 3 : 1 : falls ? 2 : 0;
    }

    private boolean exposes(int word, int fault) {
        return now.normal.contains(word) && !isCode(bits(word, fault));
    }

    private boolean isUnsafe(int word, int fault) {
        boolean[] bits = bits(word, fault);
        return now.normal.contains(word) && isCode(bits)
                && number(bits, 0) != number(bits(word, -1), 0);
    }

    int firstTest(int fault) {
        if (noFault(fault)) {
            return -101;
        }
        return now.normal.stream().sorted().filter(w -> exposes(w, fault)).findFirst().orElse(-104);
    }

    int firstUnsafe(int fault) {
        if (noFault(fault)) {
            return -101;
        }
        return now.normal.stream().sorted().filter(w -> isUnsafe(w, fault)).findFirst().orElse(-104);
    }

    int testableFaults() {
        int count = 0;
        for (int fault = 0; fault < 2 * nodeCount(); fault++) {
            count += firstTest(fault) == -104 ? 0 : 1;
        }
        return count;
    }

    int secureFaults() {
        int count = 0;
        for (int fault = 0; fault < 2 * nodeCount(); fault++) {
            count += firstUnsafe(fault) == -104 ? 1 : 0;
        }
        return count;
    }

    int isCodeDisjoint() {
        for (int word = 0; word < 1 << now.inputs; word++) {
            if (isCode(bits(word, -1)) != now.normal.contains(word)) {
                return 0;
            }
        }
        return 1;
    }

    int isUnordered() {
        for (int one : now.normal) {
            for (int other : now.normal) {
                boolean[] upper = bits(one, -1);
                boolean[] lower = bits(other, -1);
                boolean covers = true;
                for (int k = 0; k < upper.length; k++) {
                    covers = covers && (upper[k] || !lower[k]);
                }
                if (covers && number(upper, 0) != number(lower, 0)) {
                    return 0;
                }
            }
        }
        return 1;
    }

    int greedyTest(int index) {
        if (index < 0) {
            return -101;
        }
        Set<Integer> open = new HashSet<>();
        List<Set<Integer>> exposed = new ArrayList<>();
        for (int word = 0; word < 1 << now.inputs; word++) {
            exposed.add(new HashSet<>());
            for (int fault = 0; fault < 2 * nodeCount(); fault++) {
                if (exposes(word, fault)) {
                    exposed.get(word).add(fault);
                    open.add(fault);
                }
            }
        }
        List<Integer> chosen = new ArrayList<>();
        while (!open.isEmpty()) {
            int best = -1;
            long most = 0;
            for (int word = 0; word < exposed.size(); word++) {
                long news = exposed.get(word).stream().filter(open::contains).count();
                if (news > most) {
                    most = news;
                    best = word;
                }
            }
            chosen.add(best);
            open.removeAll(exposed.get(best));
        }
        return index < chosen.size() ? chosen.get(index) : -104;
    }
}
