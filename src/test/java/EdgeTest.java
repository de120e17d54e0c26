/** Each sentence of the document that names a boundary has a case here, named by its promise or its term. */
public final class EdgeTest {
    public static void main(String[] args) {
        Cases cases = new Cases();
        EdgesOfTexts.look(cases);
        EdgesOfFaults.look(cases);
        EdgesOfVillages.look(cases);
        EdgesOfPlans.look(cases);
        EdgesOfSpreading.look(cases);
        EdgesOfKnowing.look(cases);
        EdgesOfDays.look(cases);
        EdgesOfArguments.look(cases);
        cases.end("EdgeTest");
    }
}
