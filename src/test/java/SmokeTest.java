public final class SmokeTest {
    public static void main(String[] args) {
        Talk talk = Talk.withFive();
        talk.said("take the pyramid", 1);
        Talk.due("done", talk.room.done(), 0);
        Talk.finish();
    }
}
