import java.util.ArrayList;
import java.util.List;
import java.util.function.Supplier;

/**
 * All that calls can tell of an object. Some of it is told only by calls that change the object
 * (the edits to undo, the weight, the text), so the object is made anew for each view; that also
 * keeps each object far from its 512th call.
 */
final class Picture {
    private static final int DEEPEST_UNDO = 6;

    private final Supplier<SelfCheckingCircuit> maker;
    private final List<Integer> seen = new ArrayList<>();

    private Picture(Supplier<SelfCheckingCircuit> maker) {
        this.maker = maker;
    }

    /** The answers, always in the same order, about the object that the maker makes. */
    static List<Integer> of(Supplier<SelfCheckingCircuit> maker) {
        Picture picture = new Picture(maker);
        for (int undone = 0; undone <= DEEPEST_UNDO; undone++) {
            picture.circuitAfter(undone);
            picture.codeAfter(undone);
        }
        picture.text();
        picture.lengthOfText();
        return picture.seen;
    }

    private SelfCheckingCircuit undone(int times) {
        SelfCheckingCircuit x = maker.get();
        for (int k = 0; k < times; k++) {
            seen.add(x.undo());
        }
        return x;
    }

    private void circuitAfter(int times) {
        look(undone(times));
    }

    private void look(SelfCheckingCircuit x) {
        seen.add(x.nodeCount());
        for (int node = 0; node < 30; node++) {
            seen.add(x.typeOf(node));
            seen.add(x.operandOf(node, 0));
            seen.add(x.operandOf(node, 1));
        }
        for (int output = 0; output < 6; output++) {
            seen.add(x.outputNode(output));
        }
        for (int word = 0; word < 64; word++) {
            seen.add(x.isNormal(word));
        }
        seen.add(x.testableFaults());
        seen.add(x.secureFaults());
        seen.add(x.isCodeDisjoint());
        seen.add(x.isUnordered());
        seen.add(x.greedyTest(0));
    }

    /** Six outputs let the words tell every weight from 0 to 6. */
    private void codeAfter(int times) {
        SelfCheckingCircuit x = undone(times);
        seen.add(x.clearOutputs());
        for (int output = 0; output < 6; output++) {
            x.addOutput(0);
        }
        for (int word = 0; word < 64; word++) {
            seen.add(x.isCodeWord(word));
        }
        seen.add(x.setCode(0, 0));
    }

    private void text() {
        SelfCheckingCircuit x = maker.get();
        seen.add(x.firstError());
        seen.add(x.errorReason());
        seen.add(x.configure());
        look(x);
    }

    private void lengthOfText() {
        SelfCheckingCircuit x = maker.get();
        seen.add(x.append(';'));
        seen.add(x.firstError());
        seen.add(x.clearText());
    }
}
